section
-- ===== PART A: goes FIRST, ahead of the names: the tables' words, and 'selects' of the private methods out of them =====
/-- a private method of a class that the tables say can be made, by its rows of tables_1 -/
def lw_okq (q : MethodName × Nat) : Prop := (q.1.cls ≠ "java/lang/invoke/MethodHandle" ∧ q.1.cls ≠ "java/lang/invoke/VarHandle") ∧ Cond.instantiable q.1.cls q.2 ∈ tables_1 ∧ Cond.privateMethod q.1 ∈ tables_1 ∧ Cond.instanceMethod q.1 ∈ tables_1
theorem lw_p0 : lw_okq (⟨"java/lang/Throwable", "fillInStackTrace", "(I)Ljava/lang/Throwable;"⟩, 6) := ⟨⟨by decide +kernel, by decide +kernel⟩, List.mem_of_getElem? (i := 200) (by decide +kernel), List.mem_of_getElem? (i := 198) (by decide +kernel), List.mem_of_getElem? (i := 199) (by decide +kernel)⟩
theorem lw_p1 : lw_okq (⟨"FormFinds$RepeatList", "countByLength", "(LFormFinds$ItemRow;I)V"⟩, 3) := ⟨⟨by decide +kernel, by decide +kernel⟩, List.mem_of_getElem? (i := 64) (by decide +kernel), List.mem_of_getElem? (i := 308) (by decide +kernel), List.mem_of_getElem? (i := 309) (by decide +kernel)⟩
theorem lw_p2 : lw_okq (⟨"FormFinds$ItemRow", "sameRun", "(II)I"⟩, 2) := ⟨⟨by decide +kernel, by decide +kernel⟩, List.mem_of_getElem? (i := 50) (by decide +kernel), List.mem_of_getElem? (i := 316) (by decide +kernel), List.mem_of_getElem? (i := 317) (by decide +kernel)⟩
theorem lw_p3 : lw_okq (⟨"FormFinds$RepeatList", "giveSlotsLongestFirst", "()V"⟩, 3) := ⟨⟨by decide +kernel, by decide +kernel⟩, List.mem_of_getElem? (i := 64) (by decide +kernel), List.mem_of_getElem? (i := 320) (by decide +kernel), List.mem_of_getElem? (i := 321) (by decide +kernel)⟩
theorem lw_p4 : lw_okq (⟨"FormFinds$RepeatList", "putInSlots", "(LFormFinds$ItemRow;I)V"⟩, 3) := ⟨⟨by decide +kernel, by decide +kernel⟩, List.mem_of_getElem? (i := 64) (by decide +kernel), List.mem_of_getElem? (i := 324) (by decide +kernel), List.mem_of_getElem? (i := 325) (by decide +kernel)⟩
theorem lw_p5 : lw_okq (⟨"FormFinds$RepeatList", "put", "(IIII)V"⟩, 3) := ⟨⟨by decide +kernel, by decide +kernel⟩, List.mem_of_getElem? (i := 64) (by decide +kernel), List.mem_of_getElem? (i := 328) (by decide +kernel), List.mem_of_getElem? (i := 329) (by decide +kernel)⟩
theorem lw_p6 : lw_okq (⟨"FormFinds$ItemRow", "cameBefore", "(II)Z"⟩, 2) := ⟨⟨by decide +kernel, by decide +kernel⟩, List.mem_of_getElem? (i := 50) (by decide +kernel), List.mem_of_getElem? (i := 356) (by decide +kernel), List.mem_of_getElem? (i := 357) (by decide +kernel)⟩
theorem lw_p7 : lw_okq (⟨"FormFinds", "formPitch", "(II)I"⟩, 7) := ⟨⟨by decide +kernel, by decide +kernel⟩, List.mem_of_getElem? (i := 17) (by decide +kernel), List.mem_of_getElem? (i := 419) (by decide +kernel), List.mem_of_getElem? (i := 420) (by decide +kernel)⟩
theorem lw_p8 : lw_okq (⟨"FormFinds", "placeInTheme", "(II)I"⟩, 7) := ⟨⟨by decide +kernel, by decide +kernel⟩, List.mem_of_getElem? (i := 17) (by decide +kernel), List.mem_of_getElem? (i := 423) (by decide +kernel), List.mem_of_getElem? (i := 424) (by decide +kernel)⟩
theorem lw_p9 : lw_okq (⟨"FormFinds", "formLength", "(II)I"⟩, 7) := ⟨⟨by decide +kernel, by decide +kernel⟩, List.mem_of_getElem? (i := 17) (by decide +kernel), List.mem_of_getElem? (i := 427) (by decide +kernel), List.mem_of_getElem? (i := 428) (by decide +kernel)⟩
theorem lw_p10 : lw_okq (⟨"FormFinds", "lookForSought", "(II)V"⟩, 7) := ⟨⟨by decide +kernel, by decide +kernel⟩, List.mem_of_getElem? (i := 17) (by decide +kernel), List.mem_of_getElem? (i := 443) (by decide +kernel), List.mem_of_getElem? (i := 444) (by decide +kernel)⟩
theorem lw_p11 : lw_okq (⟨"FormFinds", "isSoughtAt", "(III)Z"⟩, 7) := ⟨⟨by decide +kernel, by decide +kernel⟩, List.mem_of_getElem? (i := 17) (by decide +kernel), List.mem_of_getElem? (i := 447) (by decide +kernel), List.mem_of_getElem? (i := 448) (by decide +kernel)⟩
theorem lw_p12 : lw_okq (⟨"FormFinds", "answerPitch", "(III)I"⟩, 7) := ⟨⟨by decide +kernel, by decide +kernel⟩, List.mem_of_getElem? (i := 17) (by decide +kernel), List.mem_of_getElem? (i := 467) (by decide +kernel), List.mem_of_getElem? (i := 468) (by decide +kernel)⟩
theorem lw_p13 : lw_okq (⟨"FormFinds$Parting", "weighFrom", "(LFormFinds$NoteRow;III)V"⟩, 6) := ⟨⟨by decide +kernel, by decide +kernel⟩, List.mem_of_getElem? (i := 96) (by decide +kernel), List.mem_of_getElem? (i := 502) (by decide +kernel), List.mem_of_getElem? (i := 503) (by decide +kernel)⟩
theorem lw_p14 : lw_okq (⟨"FormFinds$Parting", "isBetter", "(III)Z"⟩, 6) := ⟨⟨by decide +kernel, by decide +kernel⟩, List.mem_of_getElem? (i := 96) (by decide +kernel), List.mem_of_getElem? (i := 512) (by decide +kernel), List.mem_of_getElem? (i := 513) (by decide +kernel)⟩
theorem lw_p15 : lw_okq (⟨"FormFindsModel", "begin", "()V"⟩, 18) := ⟨⟨by decide +kernel, by decide +kernel⟩, List.mem_of_getElem? (i := 531) (by decide +kernel), List.mem_of_getElem? (i := 537) (by decide +kernel), List.mem_of_getElem? (i := 538) (by decide +kernel)⟩
def lw_privs_1 : List (MethodName × Nat) := [(⟨"java/lang/Throwable", "fillInStackTrace", "(I)Ljava/lang/Throwable;"⟩, 6), (⟨"FormFinds$RepeatList", "countByLength", "(LFormFinds$ItemRow;I)V"⟩, 3), (⟨"FormFinds$ItemRow", "sameRun", "(II)I"⟩, 2), (⟨"FormFinds$RepeatList", "giveSlotsLongestFirst", "()V"⟩, 3), (⟨"FormFinds$RepeatList", "putInSlots", "(LFormFinds$ItemRow;I)V"⟩, 3), (⟨"FormFinds$RepeatList", "put", "(IIII)V"⟩, 3), (⟨"FormFinds$ItemRow", "cameBefore", "(II)Z"⟩, 2), (⟨"FormFinds", "formPitch", "(II)I"⟩, 7), (⟨"FormFinds", "placeInTheme", "(II)I"⟩, 7), (⟨"FormFinds", "formLength", "(II)I"⟩, 7), (⟨"FormFinds", "lookForSought", "(II)V"⟩, 7), (⟨"FormFinds", "isSoughtAt", "(III)Z"⟩, 7), (⟨"FormFinds", "answerPitch", "(III)I"⟩, 7), (⟨"FormFinds$Parting", "weighFrom", "(LFormFinds$NoteRow;III)V"⟩, 6), (⟨"FormFinds$Parting", "isBetter", "(III)Z"⟩, 6), (⟨"FormFindsModel", "begin", "()V"⟩, 18)]
theorem lw_r1 : ∀ q ∈ lw_privs_1, lw_okq q := List.forall_mem_cons.mpr ⟨lw_p0, List.forall_mem_cons.mpr ⟨lw_p1, List.forall_mem_cons.mpr ⟨lw_p2, List.forall_mem_cons.mpr ⟨lw_p3, List.forall_mem_cons.mpr ⟨lw_p4, List.forall_mem_cons.mpr ⟨lw_p5, List.forall_mem_cons.mpr ⟨lw_p6, List.forall_mem_cons.mpr ⟨lw_p7, List.forall_mem_cons.mpr ⟨lw_p8, List.forall_mem_cons.mpr ⟨lw_p9, List.forall_mem_cons.mpr ⟨lw_p10, List.forall_mem_cons.mpr ⟨lw_p11, List.forall_mem_cons.mpr ⟨lw_p12, List.forall_mem_cons.mpr ⟨lw_p13, List.forall_mem_cons.mpr ⟨lw_p14, List.forall_mem_cons.mpr ⟨lw_p15, fun _ h => absurd h List.not_mem_nil⟩⟩⟩⟩⟩⟩⟩⟩⟩⟩⟩⟩⟩⟩⟩⟩
theorem lw_p16 : lw_okq (⟨"FormFindsModel", "goesOn", "(ZI)Z"⟩, 18) := ⟨⟨by decide +kernel, by decide +kernel⟩, List.mem_of_getElem? (i := 531) (by decide +kernel), List.mem_of_getElem? (i := 613) (by decide +kernel), List.mem_of_getElem? (i := 614) (by decide +kernel)⟩
theorem lw_p17 : lw_okq (⟨"FormFindsModel", "many", "(I)I"⟩, 18) := ⟨⟨by decide +kernel, by decide +kernel⟩, List.mem_of_getElem? (i := 531) (by decide +kernel), List.mem_of_getElem? (i := 629) (by decide +kernel), List.mem_of_getElem? (i := 630) (by decide +kernel)⟩
theorem lw_p18 : lw_okq (⟨"FormFindsModel", "itemOf", "(II)I"⟩, 18) := ⟨⟨by decide +kernel, by decide +kernel⟩, List.mem_of_getElem? (i := 531) (by decide +kernel), List.mem_of_getElem? (i := 637) (by decide +kernel), List.mem_of_getElem? (i := 638) (by decide +kernel)⟩
theorem lw_p19 : lw_okq (⟨"FormFindsModel", "common", "(III)I"⟩, 18) := ⟨⟨by decide +kernel, by decide +kernel⟩, List.mem_of_getElem? (i := 531) (by decide +kernel), List.mem_of_getElem? (i := 646) (by decide +kernel), List.mem_of_getElem? (i := 647) (by decide +kernel)⟩
theorem lw_p20 : lw_okq (⟨"FormFindsModel", "formPitch", "(II)I"⟩, 18) := ⟨⟨by decide +kernel, by decide +kernel⟩, List.mem_of_getElem? (i := 531) (by decide +kernel), List.mem_of_getElem? (i := 677) (by decide +kernel), List.mem_of_getElem? (i := 678) (by decide +kernel)⟩
theorem lw_p21 : lw_okq (⟨"FormFindsModel", "source", "(II)I"⟩, 18) := ⟨⟨by decide +kernel, by decide +kernel⟩, List.mem_of_getElem? (i := 531) (by decide +kernel), List.mem_of_getElem? (i := 681) (by decide +kernel), List.mem_of_getElem? (i := 682) (by decide +kernel)⟩
theorem lw_p22 : lw_okq (⟨"FormFindsModel", "goes", "(I)Z"⟩, 18) := ⟨⟨by decide +kernel, by decide +kernel⟩, List.mem_of_getElem? (i := 531) (by decide +kernel), List.mem_of_getElem? (i := 690) (by decide +kernel), List.mem_of_getElem? (i := 691) (by decide +kernel)⟩
theorem lw_p23 : lw_okq (⟨"FormFindsModel", "answerPitch", "(III)I"⟩, 18) := ⟨⟨by decide +kernel, by decide +kernel⟩, List.mem_of_getElem? (i := 531) (by decide +kernel), List.mem_of_getElem? (i := 699) (by decide +kernel), List.mem_of_getElem? (i := 700) (by decide +kernel)⟩
theorem lw_p24 : lw_okq (⟨"FormFindsModel", "costOf", "(IIII)I"⟩, 18) := ⟨⟨by decide +kernel, by decide +kernel⟩, List.mem_of_getElem? (i := 531) (by decide +kernel), List.mem_of_getElem? (i := 717) (by decide +kernel), List.mem_of_getElem? (i := 718) (by decide +kernel)⟩
def lw_privs_2 : List (MethodName × Nat) := [(⟨"FormFindsModel", "goesOn", "(ZI)Z"⟩, 18), (⟨"FormFindsModel", "many", "(I)I"⟩, 18), (⟨"FormFindsModel", "itemOf", "(II)I"⟩, 18), (⟨"FormFindsModel", "common", "(III)I"⟩, 18), (⟨"FormFindsModel", "formPitch", "(II)I"⟩, 18), (⟨"FormFindsModel", "source", "(II)I"⟩, 18), (⟨"FormFindsModel", "goes", "(I)Z"⟩, 18), (⟨"FormFindsModel", "answerPitch", "(III)I"⟩, 18), (⟨"FormFindsModel", "costOf", "(IIII)I"⟩, 18)]
theorem lw_r2 : ∀ q ∈ lw_privs_2, lw_okq q := List.forall_mem_cons.mpr ⟨lw_p16, List.forall_mem_cons.mpr ⟨lw_p17, List.forall_mem_cons.mpr ⟨lw_p18, List.forall_mem_cons.mpr ⟨lw_p19, List.forall_mem_cons.mpr ⟨lw_p20, List.forall_mem_cons.mpr ⟨lw_p21, List.forall_mem_cons.mpr ⟨lw_p22, List.forall_mem_cons.mpr ⟨lw_p23, List.forall_mem_cons.mpr ⟨lw_p24, fun _ h => absurd h List.not_mem_nil⟩⟩⟩⟩⟩⟩⟩⟩⟩
def lw_privs : List (MethodName × Nat) := lw_privs_1 ++ (lw_privs_2)
def lw_tbl : List Cond := k2_sels lw_privs ++ tables_1
theorem lw_privs_ok : ∀ q ∈ lw_privs, lw_okq q := by
  show ∀ q ∈ lw_privs_1 ++ (lw_privs_2), lw_okq q
  exact List.forall_mem_append.mpr ⟨lw_r1, lw_r2⟩
end
section
/-! an exception that a callee threw, caught by a row of this frame's table, behind rows that name other kinds (mine: the printed vx_catch asks for a law that the rounds' library lacks) -/
section KC
theorem kc_row {Q : Handler → Pre} {E : CtlPost} {e : Env} {d : Bool} {acts : List Action} {s : State} {f : JFrame} {a : Addr} {x : ExceptionTableEntry} {t : List ExceptionTableEntry} {c : ClassId} {cell : Cell} (b : Bool) (hx : covers x f.pc = true) (h0 : x.catchType ≠ 0)
    (hl : s.vm.ClassLinks e.platform f.method.cls x.catchType c) (hcell : s.heap[a]? = some cell) (hobj : ∀ k, cell.vm ≠ .statics k)
    (hk : ∃ k, s.vm.classes[cell.cls]? = some k) (hc : ∃ k, s.vm.classes[c]? = some k) (hfit : s.vm.assignable cell.cls c = b) :
    wp (findHandler.go f a (x :: t)) Q E e d acts s ↔ if b = true then Q (.found x.handlerPc) d acts (s.setVm (s.vm.noted f.method.cls x.catchType (.cls c))) else wp (findHandler.go f a t) Q E e d acts (s.setVm (s.vm.noted f.method.cls x.catchType (.cls c))) := by
  simp only [covers] at hx
  obtain ⟨ha, ht⟩ := (resolveClass_links e.toSetting hl).op (op := VmOp.resolveClass f.method.cls x.catchType) rfl
  have hal : s.vm.Alike (s.vm.noted f.method.cls x.catchType (.cls c)) := (Vm.Alike.refl s.vm).noted _ _ _
  obtain ⟨k1, hk1⟩ := hk
  obtain ⟨k2, hk2⟩ := hc
  obtain ⟨k1', hk1', -⟩ := hal.2.2 _ _ hk1
  obtain ⟨k2', hk2', -⟩ := hal.2.2 _ _ hk2
  have hfit' : (s.vm.noted f.method.cls x.catchType (.cls c)).assignable cell.cls c = b := by rw [hal.assignable]; exact hfit
  cases b <;> simp [findHandler.go, hx, h0, ha, ht, hcell, hobj, hk1', hk2', hfit', VmOp.dirties, VmOp.acts]
/-- the rows ahead are passed, the row x takes it -/
theorem kc_find {e : Env} {s₀ : State} {f : JFrame} {a : Addr} {cell : Cell} (hobj : ∀ k, cell.vm ≠ .statics k) (hk0 : ∃ k, s₀.vm.classes[cell.cls]? = some k)
    (x : ExceptionTableEntry) (rest : List ExceptionTableEntry) (hx : covers x f.pc = true) (h0 : x.catchType ≠ 0) {cx : ClassId} (hlx : s₀.vm.ClassLinks e.platform f.method.cls x.catchType cx) (hfx : s₀.vm.assignable cell.cls cx = true) :
    ∀ (pre : List ExceptionTableEntry) (S : State), s₀.WarmedH S.vm → S.heap[a]? = some cell → (∀ y ∈ pre, covers y f.pc = false ∨ (y.catchType ≠ 0 ∧ ∃ c, s₀.vm.ClassLinks e.platform f.method.cls y.catchType c ∧ s₀.vm.assignable cell.cls c = false)) →
      ∃ vm', s₀.WarmedH vm' ∧ ∀ (Q : Handler → Pre) (E : CtlPost) (d : Bool) (acts : List Action), wp (findHandler.go f a (pre ++ x :: rest)) Q E e d acts S ↔ Q (.found x.handlerPc) d acts (S.setVm vm') := by
  obtain ⟨k0, hk0⟩ := hk0
  intro pre
  induction pre with
  | nil =>
    intro S hW hcell _
    obtain ⟨k0', hk0', -⟩ := hW.alike.2.2 _ _ hk0
    obtain ⟨dk, _, _, kt, hd, _, _, _, _, hkt, _, hopen⟩ := hlx.here
    obtain ⟨kt', hkt', -⟩ := hW.alike.2.2 _ _ hkt
    refine ⟨_, hW.noted hd hopen (State.rightAt_cls hlx), fun Q E d acts => ?_⟩
    rw [List.nil_append, kc_row true hx h0 (hW.classLinks hlx) hcell hobj ⟨k0', hk0'⟩ ⟨kt', hkt'⟩ (by rw [hW.alike.assignable]; exact hfx), if_pos rfl]
  | cons y ys ih =>
    intro S hW hcell hpass
    obtain ⟨k0', hk0', -⟩ := hW.alike.2.2 _ _ hk0
    have hrest : ∀ z ∈ ys, covers z f.pc = false ∨ (z.catchType ≠ 0 ∧ ∃ c, s₀.vm.ClassLinks e.platform f.method.cls z.catchType c ∧ s₀.vm.assignable cell.cls c = false) := fun z hz => hpass z (List.mem_cons_of_mem _ hz)
    by_cases hcov : covers y f.pc = true
    · rcases hpass y (List.mem_cons_self ..) with h | ⟨h9, c, hl, hno⟩
      · rw [h] at hcov; cases hcov
      · obtain ⟨dk, _, _, kt, hd, _, _, _, _, hkt, _, hopen⟩ := hl.here
        obtain ⟨kt', hkt', -⟩ := hW.alike.2.2 _ _ hkt
        obtain ⟨vm', hW', hq⟩ := ih (S.setVm (S.vm.noted f.method.cls y.catchType (.cls c))) (hW.noted hd hopen (State.rightAt_cls hl)) hcell hrest
        refine ⟨vm', hW', fun Q E d acts => ?_⟩
        rw [List.cons_append, kc_row false hcov h9 (hW.classLinks hl) hcell hobj ⟨k0', hk0'⟩ ⟨kt', hkt'⟩ (by rw [hW.alike.assignable]; exact hno), if_neg (by decide)]
        exact hq Q E d acts
    · obtain ⟨vm', hW', hq⟩ := ih S hW hcell hrest
      refine ⟨vm', hW', fun Q E d acts => ?_⟩
      rw [List.cons_append, W.findHandler_go_skip (by simpa using hcov)]
      exact hq Q E d acts
theorem kc_step {e : Env} {s : State} {a : Addr} {f : JFrame} {r : List Frame} {pc : Nat} {vm' : Vm} (hfind : ∀ (Q : Handler → Pre) (E : CtlPost) (d : Bool) (acts : List Action), wp (findHandler f a) Q E e d acts s ↔ Q (.found pc) d acts (s.setVm vm')) :
    (stepThrowing e s a (.java f :: r)).Is ((s.setVm vm').setFrames (.java { f with pc := pc, stack := [.ref a] } :: r)) [] := by
  simp only [stepThrowing, searchFrame, vmDo]
  generalize hr : Sem.go _ e false [] s = res
  obtain ⟨as, rfl, ha⟩ := Sem.eq_ok_of hr (a := Handler.found pc) (s' := s.setVm vm') (acts' := []) (by simp [hfind _ _ _ _])
  exact ⟨rfl, ha⟩
theorem kc_caught {p : Program} {l : Launch} {e : Env} {R : Room} {s : State} {m : MethodId} {args : Array Value} {below : List Frame} {meth : Method} {c : Code} {T : State} {locs : List Loc} {cells slots : Nat}
    (X : Stand p l e R s m args below meth c T locs cells slots) (a : Addr) {g : JFrame} (hg : g.method = m) {cell : Cell} (hcell : T.heap[a]? = some cell) (hobj : cell.vm.isStatics = false) (hk0 : ∃ k, s.vm.classes[cell.cls]? = some k)
    (pre : List ExceptionTableEntry) (x : ExceptionTableEntry) (rest : List ExceptionTableEntry) (hsplit : c.exceptionTable.toList = pre ++ x :: rest)
    (hpass : ∀ y ∈ pre, covers y g.pc = false ∨ (y.catchType ≠ 0 ∧ ∃ c, s.vm.ClassLinks e.platform m.cls y.catchType c ∧ s.vm.assignable cell.cls c = false)) (hx : covers x g.pc = true) (h0 : x.catchType ≠ 0) {cx : ClassId} (hlx : s.vm.ClassLinks e.platform m.cls x.catchType cx) (hfx : s.vm.assignable cell.cls cx = true) :
    ∃ vm', Stand p l e R s m args below meth c (T.setVm vm') locs cells slots ∧ Steps p.tables e below ((T.setTop g).pushFrame (.throwing a)) ((T.setVm vm').setTop { g with pc := x.handlerPc, stack := [.ref a] }) := by
  subst hg
  obtain ⟨vm', hW', hq⟩ := kc_find (e := e) (s₀ := s) (f := g) (a := a) (cell := cell) (VmData.ne_statics_of hobj) hk0 x rest hx h0 hlx hfx pre ((T.setTop g).pushFrame (.throwing a)) X.warmed hcell hpass
  refine ⟨vm', X.noted hW', ?_⟩
  have hfind : ∀ (Q : Handler → Pre) (E : CtlPost) (d : Bool) (acts : List Action), wp (findHandler g a) Q E e d acts ((T.setTop g).pushFrame (.throwing a)) ↔ Q (.found x.handlerPc) d acts (((T.setTop g).pushFrame (.throwing a)).setVm vm') := fun Q E d acts => by
    rw [W.findHandler_eq (s := (T.setTop g).pushFrame (.throwing a)) (meth := meth) (code := c) X.method' X.code, hsplit]
    exact hq Q E d acts
  have h := X.here
  obtain ⟨hgo, hw⟩ := h.throwing a
  refine Steps.head hgo hw ?_
  rw [stepThread_throwing (frames_entered h.top _), (kc_step (s := (T.setTop g).pushFrame (.throwing a)) hfind).1]
  obtain ⟨g₀, hg0⟩ := Option.isSome_iff_exists.mp h.top
  obtain ⟨r, hr⟩ := State.topJava?_eq_some.mp hg0
  have hr' : (T.setVm vm').frames = .java g₀ :: r := hr
  have key : ∀ (u : State) (F G : List Frame), ((u.setFrames F).setVm vm').setFrames G = (u.setVm vm').setFrames G := fun u F G => by
    have h1 : (u.setFrames F).setVm vm' = (u.setVm vm').setFrames F := rfl
    rw [h1, State.setFrames_setFrames]
  rw [hr, List.tail_cons, State.pushFrame, key, State.setTop_of_frames _ hr, key, State.setTop_of_frames _ hr']
  exact Steps.refl _
end KC
end
section
/-! ===== BEGIN words of one list among another's, by their places ===== -/
theorem goodIn_r {big : List Cond} (ws : List Cond) (ps : List Nat) (hp : ws = ps.filterMap (fun i => big[i]?)) (h : ws.all goodWord = true) : GoodIn big ws := by
  intro w hw
  have h1 := List.all_eq_true.mp h w hw
  rw [hp] at hw
  obtain ⟨i, -, hi⟩ := List.mem_filterMap.mp hw
  have hm : w ∈ big := by first | exact List.mem_of_getElem? hi | exact List.getElem?_mem hi
  exact ⟨hm, good_of_word h1⟩
theorem goodIn_app {big a b : List Cond} (ha : GoodIn big a) (hb : GoodIn big b) : GoodIn big (a ++ b) := fun w h => (List.mem_append.mp h).elim (ha w) (hb w)
theorem goodIn_ca {big a b : List Cond} {c : Cond} (ha : GoodIn big (c :: a)) (hb : GoodIn big b) : GoodIn big (c :: (a ++ b)) := fun w h => (List.mem_cons.mp h).elim (fun e => ha w (List.mem_cons.mpr (Or.inl e))) (fun h => (List.mem_append.mp h).elim (fun h => ha w (List.mem_cons.mpr (Or.inr h))) (hb w))
theorem goodIn_sub {big ws : List Cond} (hm : ∀ w ∈ ws, w ∈ big) (h : ws.all goodWord = true) : GoodIn big ws := fun w hw => ⟨hm w hw, good_of_word (List.all_eq_true.mp h w hw)⟩
/-! ===== END ===== -/

/-! ===== BEGIN exceptions that leave a method, and their catching by the caller (launches without stack traces) ===== -/
section VXA
/-! The laws vx_back, vx_callV, vx_callS, vx_callSW, vx_throw0, vx_throwS follow proofs of the library, with one case more: JvmDerived/Free/Laws.lean (Back.of_free), Shelf42/LK1.lean (callV, callS), Shelf/KitTraced.lean (throwNew0V, throwNewS). -/
/-- where a method has thrown q: the class by its name, the cell, what was written, the world -/
def vx_T (XC : String → State → State → Prop) (st : State) (q : Addr) (t : State) (mc ms : Nat) (free : Addr → Prop) : Prop :=
  ∃ (E : String) (ce : Cell) (L : List Loc), XC E st t ∧ t.heap[q]? = some ce ∧ ce.vm = .none ∧ st.vm.findClass E = some ce.cls ∧ st.WarmedH t.vm ∧ st.sameButNew ({ t with vm := st.vm } : State) L mc ms ∧ ∀ z ∈ L, free z.base
def vx_Q (Qc : Array Value → State → Outcome → State → Prop) (XC : String → State → State → Prop) (mc ms : Nat) (free : Addr → Prop) : Array Value → State → Outcome → State → Prop := fun a st o t =>
  (Qc a st o t ∧ ∃ L, FrameEnd st o t L mc ms ∧ ∀ q ∈ L, free q.base) ∨ ∃ q, o = .threw q ∧ vx_T XC st q t mc ms free
/-- a callee that returns or throws -/
def vx_Met (l : Launch) (y : MethodName) (ws : List Cond) (rm : Room) (Pc : Array Value → State → Prop) (Qc : Array Value → State → Outcome → State → Prop) (XC : String → State → State → Prop) (mc ms : Nat) (free : Addr → Prop) : Prop :=
  MetFree l y (headSpec ws rm) Pc (fun _ _ _ _ _ => True) (vx_Q Qc XC mc ms free)
def vx_Post (XC : String → State → State → Prop) (mc ms : Nat) (free : Addr → Prop) : Pt → Array Value → Addr → Pt → Prop := fun A a q B =>
  ∃ (g : JFrame) (mk : MethodId) (t : State) (L : List Loc) (E : String) (ce : Cell), B.U.heap = t.heap ∧ B.U.vm = t.vm ∧ XC E (A.U.calling g mk a) t ∧ t.heap[q]? = some ce ∧ ce.vm = .none ∧ A.U.vm.findClass E = some ce.cls ∧ B.locs = A.locs ++ L ∧ (∀ z ∈ L, free z.base) ∧ B.cells = A.cells + mc ∧ B.slots = A.slots + ms
def vx_Back (l : Launch) (R : Room) (p : Program) (e : Env) (below : List Frame) (s : State) (sargs : Array Value) (y : MethodName) (len W9 : Nat)
    (Pre : Pt → Array Value → Prop) (Post : Pt → Array Value → Option Value → Pt → Prop) (PostX : Pt → Array Value → Addr → Pt → Prop) : Prop :=
  ∀ (m : MethodId) (meth : Method) (c : Code) (A : Pt) (g : JFrame) (ig : Instr) (mk : MethodId) (a : Array Value),
    Stand p l e R s m sargs below meth c A.U A.locs A.cells A.slots → g.method = m → g.locals.size = c.maxLocals → decode c.code g.pc = .ok (ig, len) →
    2 * g.monitorRoom + (g.stack.map fun v => v.category).sum ≤ W9 → A.U.methodNamed? y = some mk → Pre A a →
    (∃ (v : Option Value) (B : Pt), Stand p l e R s m sargs below meth c B.U B.locs B.cells B.slots ∧ Post A a v B ∧
      Steps p.tables e below (doInvoke e (A.U.setTop g) [] mk a).1 (B.U.setTop { g with pc := g.pc + len, stack := v.toList ++ g.stack })) ∨
    (∃ (q : Addr) (B : Pt), Stand p l e R s m sargs below meth c B.U B.locs B.cells B.slots ∧ PostX A a q B ∧
      Steps p.tables e below (doInvoke e (A.U.setTop g) [] mk a).1 ((B.U.setTop g).pushFrame (.throwing q)))
section Payer
variable {l : Launch} {R : Room} {p : Program} {e : Env} {below : List Frame} {s : State} {sargs : Array Value} {y : MethodName} {len W9 : Nat}
theorem vx_back {ws : List Cond} {rm : Room} {Pc : Array Value → State → Prop} {Qc : Array Value → State → Outcome → State → Prop} {XC : String → State → State → Prop} {mc ms : Nat} {free : Addr → Prop} {bytes : ByteArray} {maxL : Nat} {ret : Option FieldType}
    (hM : vx_Met l y ws rm Pc Qc XC mc ms free) (hblind : FrameBlind Pc) (hrc : rm.cells = mc) (hrs : rm.slots = ms)
    (hframes : rm.frames + 1 ≤ R.frames) (hlocals : W9 + (maxL + 11) + rm.locals ≤ R.locals)
    (hws : ∀ w ∈ ws, ∀ a' U, s.WarmedH U.vm → w.before a' U = true) (hcode : Cond.code y bytes maxL ret ∈ ws) (hinit : ∀ a' U, s.WarmedH U.vm → (Cond.initialized y.cls).before a' U = true) :
    vx_Back l R p e below s sargs y len W9 (PreOf R mc ms Pc) (PostOf Qc mc ms free) (vx_Post XC mc ms free) := by
  intro m meth c A g ig mk a X hg hsize hdg hW hn hp
  have h1 : (headSpec ws rm).pre.before a A.U = true := atoms_intro fun w hw => hws w hw _ _ X.warmed
  have h2 : (Cond.code y bytes maxL ret).before a A.U = true := hws _ hcode _ _ X.warmed
  have h3 : (Cond.initialized y.cls).before a A.U = true := hinit _ _ X.warmed
  have h4 : A.cells + (headSpec ws rm).room.cells ≤ R.cells := by rw [show (headSpec ws rm).room.cells = mc from hrc]; exact hp.1
  have h5 : A.slots + (headSpec ws rm).room.slots ≤ R.slots := by rw [show (headSpec ws rm).room.slots = ms from hrs]; exact hp.2.1
  have hPc : Pc a (A.U.calling g mk a) := hblind _ _ _ _ hp.2.2
  obtain ⟨U, Ls, c0, s0⟩ := A
  dsimp only [Pt.U, Pt.locs, Pt.cells, Pt.slots] at h1 h2 h3 h4 h5 X hn hPc ⊢
  obtain ⟨methY, cY, hmY, hcY, -, hlY, -, -, -, -⟩ := Cond.code_spec hn h2
  obtain ⟨kY, hkY, -⟩ := className_of_methodNamed hn
  have hinitY : kY.init = .initialized := Cond.initialized_spec (findClass_of_methodNamed hn) hkY h3
  have h : At U g.method c below := by rw [hg]; exact X.here
  have hlocals9 : W9 + (maxL + 11) + (headSpec ws rm).room.locals ≤ R.locals := hlocals
  have happ : (headSpec ws rm).appliesLoose y e.platform (U.calling g mk a) = true :=
    Spec.appliesLoose_calling (g := g) h hdg hn hkY hinitY
      (X.room_calling (g := g) (R' := (headSpec ws rm).room) hsize hmY hcY hframes (by rw [hlY]; omega) h4 h5) h1
  obtain ⟨mid, hmid⟩ := h.above
  have hfr : (U.setTop g).frames = (.java g :: mid) ++ below := by rw [State.frames_setTop' g h.top, hmid]; rfl
  obtain ⟨o, s₂, hsteps, -, hend, hq⟩ := Steps.callFree hM p X.admits X.cas X.clock (acts := []) hfr happ hPc trivial
  have hq' : vx_Q Qc XC mc ms free a (U.calling g mk a) o s₂ := hq
  rw [State.frames_setTop' g h.top] at hend
  obtain ⟨g₀, hg0⟩ := Option.isSome_iff_exists.mp h.top
  obtain ⟨r, hr⟩ := State.topJava?_eq_some.mp hg0
  have hr' : (({ U with heap := s₂.heap, slotsUsed := s₂.slotsUsed } : State).setVm s₂.vm).frames = .java g₀ :: r := hr
  rcases hq' with ⟨hqc, L, hfe, hL⟩ | ⟨q, rfl, E, ce, L, hx, hce, hcv, hcl, hW₂, hsm, hL⟩
  · obtain ⟨⟨v, rfl⟩, hW₂, e2, q2, q3, q4, q5, q6⟩ := id hfe
    have e3 : s₂ = ({ (U.calling g mk a).setFrames s₂.frames with heap := s₂.heap, slotsUsed := s₂.slotsUsed } : State).setVm s₂.vm := by
      have : s₂ = ({ s₂ with vm := (U.calling g mk a).vm } : State).setVm s₂.vm := rfl
      rw [e2] at this
      exact this
    obtain ⟨c₂, i₂, len₂, hc₂, hd₂, hf₂⟩ := hend
    have hW' : U.WarmedH s₂.vm := hW₂
    have hcc : c₂ = c := by
      have h1 : s₂.code? g.method = U.code? g.method := by
        rw [State.code?_eq, State.code?_eq, hW'.alike.method?]
      exact Option.some.inj (hc₂.symm.trans (h1.trans h.code))
    subst hcc
    have hlen : len₂ = len := by rw [hdg] at hd₂; cases hd₂; rfl
    subst hlen
    have hs₂ : s₂ = (({ U with heap := s₂.heap, slotsUsed := s₂.slotsUsed } : State).setVm s₂.vm).setTop { g with pc := g.pc + len₂, stack := v.toList ++ g.stack } := by
      refine e3.trans ?_
      rw [hf₂, State.calling_eq h.top, State.setFrames_setFrames, State.setTop_of_frames _ hr', hr]
      rfl
    have hsame : U.sameButNew ({ U with heap := s₂.heap, slotsUsed := s₂.slotsUsed } : State) L mc ms := by
      refine ⟨?_, q2, q3, q4, q5, q6⟩
      obtain ⟨t, ht, -⟩ := State.frames_cons hr
      show ({ U with heap := s₂.heap, slotsUsed := s₂.slotsUsed } : State) = { U.setFrames U.frames with heap := s₂.heap, slotsUsed := s₂.slotsUsed }
      rw [State.setFrames_self ht]
    subst hg
    refine Or.inl ⟨v, ⟨(({ U with heap := s₂.heap, slotsUsed := s₂.slotsUsed } : State).setVm s₂.vm), Ls ++ L, c0 + mc, s0 + ms⟩,
      ⟨X.admits, X.cas, X.clock, X.frames, X.room, X.hears, X.method, X.code, (X.here.setHeapUsed s₂.heap s₂.slotsUsed).setVm hW'.alike, X.tail, State.WarmedH.trans X.warmed hW', X.limits, X.bytes, X.same.trans (hsame.setVm s.vm)⟩,
      ⟨g, mk, s₂, L, rfl, rfl, hqc, rfl, hL, rfl, rfl⟩, ?_⟩
    show Steps p.tables e below _ ((({ U with heap := s₂.heap, slotsUsed := s₂.slotsUsed } : State).setVm s₂.vm).setTop { g with pc := g.pc + len₂, stack := v.toList ++ g.stack })
    rw [← hs₂]
    exact hsteps
  · obtain ⟨e2, q2, q3, q4, q5, q6⟩ := id hsm
    have e3 : s₂ = ({ (U.calling g mk a).setFrames s₂.frames with heap := s₂.heap, slotsUsed := s₂.slotsUsed } : State).setVm s₂.vm := by
      have : s₂ = ({ s₂ with vm := (U.calling g mk a).vm } : State).setVm s₂.vm := rfl
      rw [e2] at this
      exact this
    have hf₂ : s₂.frames = .throwing q :: .java g :: U.frames.tail := hend
    have hW' : U.WarmedH s₂.vm := hW₂
    have hs₂ : s₂ = ((({ U with heap := s₂.heap, slotsUsed := s₂.slotsUsed } : State).setVm s₂.vm).setTop g).pushFrame (.throwing q) := by
      refine e3.trans ?_
      rw [hf₂, State.calling_eq h.top, State.setFrames_setFrames, State.pushFrame, State.frames_setTop _ hr', State.setTop_of_frames _ hr', State.setFrames_setFrames, hr]
      rfl
    have hsame : U.sameButNew ({ U with heap := s₂.heap, slotsUsed := s₂.slotsUsed } : State) L mc ms := by
      refine ⟨?_, q2, q3, q4, q5, q6⟩
      obtain ⟨t, ht, -⟩ := State.frames_cons hr
      show ({ U with heap := s₂.heap, slotsUsed := s₂.slotsUsed } : State) = { U.setFrames U.frames with heap := s₂.heap, slotsUsed := s₂.slotsUsed }
      rw [State.setFrames_self ht]
    subst hg
    refine Or.inr ⟨q, ⟨(({ U with heap := s₂.heap, slotsUsed := s₂.slotsUsed } : State).setVm s₂.vm), Ls ++ L, c0 + mc, s0 + ms⟩,
      ⟨X.admits, X.cas, X.clock, X.frames, X.room, X.hears, X.method, X.code, (X.here.setHeapUsed s₂.heap s₂.slotsUsed).setVm hW'.alike, X.tail, State.WarmedH.trans X.warmed hW', X.limits, X.bytes, X.same.trans (hsame.setVm s.vm)⟩,
      ⟨g, mk, s₂, L, E, ce, rfl, rfl, hx, hce, hcv, hcl, rfl, hL, rfl, rfl⟩, ?_⟩
    show Steps p.tables e below _ (((({ U with heap := s₂.heap, slotsUsed := s₂.slotsUsed } : State).setVm s₂.vm).setTop g).pushFrame (.throwing q))
    rw [← hs₂]
    exact hsteps
end Payer
section Calls
variable {p : Program} {l : Launch} {e : Env} {R : Room} {s : State} {m : MethodId} {args : Array Value} {below : List Frame} {meth : Method} {c : Code} {T : State} {locs : List Loc} {cells slots : Nat}
theorem vx_callV (X : Stand p l e R s m args below meth c T locs cells slots) (hexec : p.tables.exec = Jvm.exec) {own C : String} {index : Nat} {y : MethodName} {bytes : ByteArray} {maxL : Nat} {ret : Option FieldType}
    (hown : s.vm.findClass own = some m.cls) (hlink : (Cond.methodLink own index y).before args s = true) (hinst : (Cond.instanceMethod y).before args s = true) (hsel : (Cond.selects C y y).before args s = true)
    (hcode : (Cond.code y bytes maxL ret).before args s = true) (hy : y.cls ≠ "java/lang/invoke/MethodHandle" ∧ y.cls ≠ "java/lang/invoke/VarHandle")
    {W9 : Nat} {Pre : Pt → Array Value → Prop} {Post : Pt → Array Value → Option Value → Pt → Prop} {PostX : Pt → Array Value → Addr → Pt → Prop} (hK : vx_Back l R p e below s args y 3 W9 Pre Post PostX)
    {b : Addr} {cellB : Cell} (hcell : T.heap[b]? = some cellB) (hobj : cellB.vm.isStatics = false) (hcls : s.vm.findClass C = some cellB.cls)
    {g : JFrame} (hg : g.method = m) (hsize : g.locals.size = c.maxLocals) {argsL rest : List Value} (hlen : ∀ sig, parseMethodDescriptor y.desc = some sig → argsL.length = sig.parameters.length)
    (hstack : g.stack = argsL.reverse ++ .ref b :: rest) (hW : 2 * g.monitorRoom + (rest.map fun v => v.category).sum ≤ W9) (hdg : decode c.code g.pc = .ok (.invokevirtual index, 3))
    (hpre : ∀ vm₁, s.WarmedH vm₁ → Pre ⟨T.setVm vm₁, locs, cells, slots⟩ (Value.ref b :: argsL).toArray) :
    (∃ (v : Option Value) (vm₁ : Vm) (B : Pt), s.WarmedH vm₁ ∧ Stand p l e R s m args below meth c B.U B.locs B.cells B.slots ∧ Post ⟨T.setVm vm₁, locs, cells, slots⟩ (Value.ref b :: argsL).toArray v B ∧
      ∀ target, Steps p.tables e below (B.U.setTop { g with pc := g.pc + 3, stack := v.toList ++ rest }) target → Steps p.tables e below (T.setTop g) target) ∨
    (∃ (q : Addr) (vm₁ : Vm) (B : Pt), s.WarmedH vm₁ ∧ Stand p l e R s m args below meth c B.U B.locs B.cells B.slots ∧ PostX ⟨T.setVm vm₁, locs, cells, slots⟩ (Value.ref b :: argsL).toArray q B ∧
      Steps p.tables e below (T.setTop g) ((B.U.setTop { g with stack := rest }).pushFrame (.throwing q))) := by
  obtain ⟨mk, methM, hnamed, hmethM, hstM, habM⟩ := Cond.instanceMethod_spec hinst
  obtain ⟨methM', cM, hmethM', -, -, -, -, -, -, hsigM⟩ := Cond.code_spec hnamed hcode
  cases hmethM.symm.trans hmethM'
  obtain ⟨c2, r2, m2, q1, q2, q3, q4, kP, hkP, hkPi⟩ := Cond.selects_spec hsel
  cases hcls.symm.trans q1
  cases (State.methodFound?_of_named hnamed hy).symm.trans q2
  cases hnamed.symm.trans q3
  have hselP : selectMethod e.platform s.vm cellB.cls mk = .method mk := by rw [Launch.admits_selectMethod X.admits]; exact q4
  obtain ⟨vm₁, X₁, hstep₁⟩ := X.invokevirtual hexec hown hlink hnamed hmethM hstM hkP hkPi hy (a := b) (cell := cellB) hcell
    (fun z h => by rw [h] at hobj; cases hobj) hselP hmethM habM hkP hkPi (g := g) hg (argsL := argsL) (rest := rest) (hlen _ hsigM) hstack hdg
  rcases hK m meth c ⟨T.setVm vm₁, locs, cells, slots⟩ { g with stack := rest } (.invokevirtual index) mk (Value.ref b :: argsL).toArray X₁ hg hsize hdg hW (X₁.named hnamed) (hpre vm₁ X₁.warmed) with ⟨v, B, X', hpost, hsteps⟩ | ⟨q, B, X', hpost, hsteps⟩
  · exact Or.inl ⟨v, vm₁, B, X₁.warmed, X', hpost, fun target h => hstep₁ _ fun acts => by rw [doInvoke_state]; exact hsteps.trans h⟩
  · exact Or.inr ⟨q, vm₁, B, X₁.warmed, X', hpost, hstep₁ _ fun acts => by rw [doInvoke_state]; exact hsteps⟩
theorem vx_callS (X : Stand p l e R s m args below meth c T locs cells slots) (hexec : p.tables.exec = Jvm.exec) {own : String} {index : Nat} {y : MethodName} {bytes : ByteArray} {maxL : Nat} {ret : Option FieldType}
    (hown : s.vm.findClass own = some m.cls) (hlink : (Cond.methodLink own index y).before args s = true) (hstat : (Cond.static y).before args s = true) (hinit : (Cond.initialized y.cls).before args s = true)
    (hcode : (Cond.code y bytes maxL ret).before args s = true) (hy : y.cls ≠ "java/lang/invoke/MethodHandle" ∧ y.cls ≠ "java/lang/invoke/VarHandle")
    {W9 : Nat} {Pre : Pt → Array Value → Prop} {Post : Pt → Array Value → Option Value → Pt → Prop} {PostX : Pt → Array Value → Addr → Pt → Prop} (hK : vx_Back l R p e below s args y 3 W9 Pre Post PostX)
    {g : JFrame} (hg : g.method = m) (hsize : g.locals.size = c.maxLocals) {argsL rest : List Value} (hlen : ∀ sig, parseMethodDescriptor y.desc = some sig → argsL.length = sig.parameters.length)
    (hstack : g.stack = argsL.reverse ++ rest) (hW : 2 * g.monitorRoom + (rest.map fun v => v.category).sum ≤ W9) (hdg : decode c.code g.pc = .ok (.invokestatic index, 3))
    (hpre : ∀ vm₁, s.WarmedH vm₁ → Pre ⟨T.setVm vm₁, locs, cells, slots⟩ argsL.toArray) :
    (∃ (v : Option Value) (vm₁ : Vm) (B : Pt), s.WarmedH vm₁ ∧ Stand p l e R s m args below meth c B.U B.locs B.cells B.slots ∧ Post ⟨T.setVm vm₁, locs, cells, slots⟩ argsL.toArray v B ∧
      ∀ target, Steps p.tables e below (B.U.setTop { g with pc := g.pc + 3, stack := v.toList ++ rest }) target → Steps p.tables e below (T.setTop g) target) ∨
    (∃ (q : Addr) (vm₁ : Vm) (B : Pt), s.WarmedH vm₁ ∧ Stand p l e R s m args below meth c B.U B.locs B.cells B.slots ∧ PostX ⟨T.setVm vm₁, locs, cells, slots⟩ argsL.toArray q B ∧
      Steps p.tables e below (T.setTop g) ((B.U.setTop { g with stack := rest }).pushFrame (.throwing q))) := by
  obtain ⟨mk, hnamed⟩ := Cond.code_named hcode
  obtain ⟨methM, cM, hmethM, -, -, -, -, -, -, hsigM⟩ := Cond.code_spec hnamed hcode
  have hstatic : methM.isStatic = true := Cond.static_spec hnamed hmethM hstat
  obtain ⟨kP, hkP, -⟩ := className_of_methodNamed hnamed
  have hinitP : kP.init = .initialized := Cond.initialized_spec (findClass_of_methodNamed hnamed) hkP hinit
  obtain ⟨vm₁, X₁, hstep₁⟩ := X.invokestatic hexec hown hlink hnamed hmethM hstatic hkP hinitP hy (g := g) hg (argsL := argsL) (rest := rest) (hlen _ hsigM) hstack hdg
  rcases hK m meth c ⟨T.setVm vm₁, locs, cells, slots⟩ { g with stack := rest } (.invokestatic index) mk argsL.toArray X₁ hg hsize hdg hW (X₁.named hnamed) (hpre vm₁ X₁.warmed) with ⟨v, B, X', hpost, hsteps⟩ | ⟨q, B, X', hpost, hsteps⟩
  · exact Or.inl ⟨v, vm₁, B, X₁.warmed, X', hpost, fun target h => hstep₁ _ fun acts => by rw [doInvoke_state]; exact hsteps.trans h⟩
  · exact Or.inr ⟨q, vm₁, B, X₁.warmed, X', hpost, hstep₁ _ fun acts => by rw [doInvoke_state]; exact hsteps⟩
end Calls
theorem vx_cls {s : State} {T : State} {vm₁ : Vm} {E : String} {k : ClassId} (hW : s.WarmedH vm₁) (h : (T.setVm vm₁).vm.findClass E = some k) : s.vm.findClass E = some k := by
  have h1 : vm₁.findClass E = some k := h
  rw [hW.alike.findClass] at h1
  exact h1
/-- the method's frame g, with q thrown over it -/
def vx_W (p : Program) (l : Launch) (e : Env) (R : Room) (s : State) (m : MethodId) (args : Array Value) (below : List Frame) (meth : Method) (c : Code) (H : Heap) (locs : List Loc) (cells slots : Nat) (Q : State → Prop) (g : JFrame) (q : Addr) : Prop :=
  ∀ T : State, T.heap = H → Stand p l e R s m args below meth c T locs cells slots → ∃ t, Steps p.tables e below ((T.setTop g).pushFrame (.throwing q)) t ∧ Q t
def vx_Run (p : Program) (l : Launch) (e : Env) (R : Room) (s : State) (m : MethodId) (args : Array Value) (below : List Frame) (meth : Method) (c : Code) (H : Heap) (locs : List Loc) (cells slots mc ms : Nat) (g : JFrame) (rest : List Value) (Qa : State → Outcome → State → Prop) (XC : String → State → State → Prop) (free : Addr → Prop) : Prop :=
  ∀ T : State, T.heap = H → Stand p l e R s m args below meth c T locs cells slots →
    (∃ (v : Option Value) (st₀ t T' : State) (L : List Loc), st₀.heap = H ∧ Stand p l e R s m args below meth c T' (locs ++ L) (cells + mc) (slots + ms) ∧ (∀ q ∈ L, free q.base) ∧ T'.heap = t.heap ∧ T'.vm = t.vm ∧ Qa st₀ (.returned v) t ∧
      Goes p e below T g T' { g with pc := g.pc + 3, stack := v.toList ++ rest }) ∨
    (∃ (q : Addr) (st₀ t T' : State) (L : List Loc) (E : String) (ce : Cell), st₀.heap = H ∧ Stand p l e R s m args below meth c T' (locs ++ L) (cells + mc) (slots + ms) ∧ (∀ z ∈ L, free z.base) ∧ T'.heap = t.heap ∧ T'.vm = t.vm ∧ XC E st₀ t ∧ t.heap[q]? = some ce ∧ ce.vm = .none ∧ s.vm.findClass E = some ce.cls ∧
      Steps p.tables e below (T.setTop g) ((T'.setTop { g with stack := rest }).pushFrame (.throwing q)))
def vx_X {S : Type} (px : S → Prop) (B : String → S → State → Prop) (A : Nat → Prop) : String → State → State → Prop := fun E st t => ∃ u : S, px u ∧ B E u t ∧ va_F A st t
section Runs
variable {p : Program} {l : Launch} {e : Env} {R : Room} {s : State} {m : MethodId} {args : Array Value} {below : List Frame} {meth : Method} {c : Code} {H : Heap} {locs : List Loc} {cells slots : Nat}
variable {y : MethodName} {bytes cc : ByteArray} {maxL nL mc ms n index : Nat} {ret : Option FieldType} {ws : List Cond} {rm : Room} {Pc : Array Value → State → Prop} {Qc : Array Value → State → Outcome → State → Prop} {XC : String → State → State → Prop} {free : Addr → Prop} {Ts : List Cond} {own C : String} {b : Addr} {As rest : List Value} {g : JFrame}
theorem vx_callBack (cb : CallB R s args own index y bytes maxL ret ws rm mc ms n) (hM : vx_Met l y ws rm Pc Qc XC mc ms free) (hbl : FrameBlind Pc) : vx_Back l R p e below s args y 3 8 (PreOf R mc ms Pc) (PostOf Qc mc ms free) (vx_Post XC mc ms free) := by
  obtain ⟨hrc, hrs, hfr, hlo, hws, hcw, -, hini, -⟩ := cb
  exact vx_back (bytes := bytes) (maxL := maxL) (ret := ret) hM hbl hrc hrs hfr hlo hws hcw (fun a' U hW => word_at hW (Or.inl (by first | rfl | simp [Cond.onTables, Cond.keeps, Cond.steady])) hini)
theorem vx_runV (S : CallFix p m c cc nL s args Ts own) (hM : vx_Met l y ws rm Pc Qc XC mc ms free) (cw : CallW R s args own C index y bytes maxL ret ws rm mc ms n) (hp : PreV s H C b Pc As)
    (hg : g.method = m) (hn : As.length = n) (hsize : g.locals.size = nL) (hstack : g.stack = As.reverse ++ .ref b :: rest) (hW : 2 * g.monitorRoom + (rest.map fun v => v.category).sum ≤ 8) (hdg : decode cc g.pc = .ok (.invokevirtual index, 3)) (hf : cells + mc ≤ R.cells ∧ slots + ms ≤ R.slots) :
    vx_Run p l e R s m args below meth c H locs cells slots mc ms g rest (Qc (Value.ref b :: As).toArray) XC free := by
  have hK : vx_Back l R p e below s args y 3 8 (PreOf R mc ms Pc) (PostOf Qc mc ms free) (vx_Post XC mc ms free) := vx_callBack cw.1 hM hp.1
  obtain ⟨⟨-, -, -, -, -, -, hcode, -, hy, hlen, hl⟩, hin, hse⟩ := cw
  obtain ⟨hx, hb, hml, ho, -⟩ := S
  obtain ⟨-, ⟨cellB, hcB, hoB, hclB⟩, hPc⟩ := hp
  intro T hT X
  rcases vx_callV X hx (C := C) (bytes := bytes) (maxL := maxL) (ret := ret) ho hl hin hse hcode hy hK (by rw [hT]; exact hcB) hoB hclB hg (hsize.trans hml.symm) (argsL := As) (rest := rest) (fun sig h => hn.trans (hlen sig h)) hstack hW (by rw [hb]; exact hdg)
    (fun vm₁ hW₁ => ⟨hf.1, hf.2, hPc (T.setVm vm₁) hT hW₁⟩) with ⟨v, vm₁, ⟨U', l2, c2, s2⟩, hW₁, X', ⟨g', mk, t, L, e1, e2, hq, h1, hL, h2, h3⟩, st⟩ | ⟨q, vm₁, ⟨U', l2, c2, s2⟩, hW₁, X', ⟨g', mk, t, L, E, ce, e1, e2, hq, hce, hcv, hcl, h1, hL, h2, h3⟩, st⟩
  · dsimp only [Pt.U, Pt.locs, Pt.cells, Pt.slots] at X' e1 e2 h1 h2 h3 st
    subst h1; subst h2; subst h3
    exact Or.inl ⟨v, (T.setVm vm₁).calling g' mk (Value.ref b :: As).toArray, t, U', L, hT, X', hL, e1, e2, hq, st⟩
  · dsimp only [Pt.U, Pt.locs, Pt.cells, Pt.slots] at X' e1 e2 h1 h2 h3 st hcl
    subst h1; subst h2; subst h3
    exact Or.inr ⟨q, (T.setVm vm₁).calling g' mk (Value.ref b :: As).toArray, t, U', L, E, ce, hT, X', hL, e1, e2, hq, hce, hcv, vx_cls hW₁ hcl, st⟩
theorem vx_runS (S : CallFix p m c cc nL s args Ts own) (hM : vx_Met l y ws rm Pc Qc XC mc ms free) (cw : CallB R s args own index y bytes maxL ret ws rm mc ms n ∧ (Cond.static y).before args s = true) (hp : PreS s H Pc As)
    (hg : g.method = m) (hn : As.length = n) (hsize : g.locals.size = nL) (hstack : g.stack = As.reverse ++ rest) (hW : 2 * g.monitorRoom + (rest.map fun v => v.category).sum ≤ 8) (hdg : decode cc g.pc = .ok (.invokestatic index, 3)) (hf : cells + mc ≤ R.cells ∧ slots + ms ≤ R.slots) :
    vx_Run p l e R s m args below meth c H locs cells slots mc ms g rest (Qc As.toArray) XC free := by
  have hK : vx_Back l R p e below s args y 3 8 (PreOf R mc ms Pc) (PostOf Qc mc ms free) (vx_Post XC mc ms free) := vx_callBack cw.1 hM hp.1
  obtain ⟨⟨-, -, -, -, -, -, hcode, hini, hy, hlen, hl⟩, hstt⟩ := cw
  obtain ⟨hx, hb, hml, ho, -⟩ := S
  intro T hT X
  rcases vx_callS X hx (bytes := bytes) (maxL := maxL) (ret := ret) ho hl hstt hini hcode hy hK hg (hsize.trans hml.symm) (argsL := As) (rest := rest) (fun sig h => hn.trans (hlen sig h)) hstack hW (by rw [hb]; exact hdg)
    (fun vm₁ hW₁ => ⟨hf.1, hf.2, hp.2 (T.setVm vm₁) hT hW₁⟩) with ⟨v, vm₁, ⟨U', l2, c2, s2⟩, hW₁, X', ⟨g', mk, t, L, e1, e2, hq, h1, hL, h2, h3⟩, st⟩ | ⟨q, vm₁, ⟨U', l2, c2, s2⟩, hW₁, X', ⟨g', mk, t, L, E, ce, e1, e2, hq, hce, hcv, hcl, h1, hL, h2, h3⟩, st⟩
  · dsimp only [Pt.U, Pt.locs, Pt.cells, Pt.slots] at X' e1 e2 h1 h2 h3 st
    subst h1; subst h2; subst h3
    exact Or.inl ⟨v, (T.setVm vm₁).calling g' mk As.toArray, t, U', L, hT, X', hL, e1, e2, hq, st⟩
  · dsimp only [Pt.U, Pt.locs, Pt.cells, Pt.slots] at X' e1 e2 h1 h2 h3 st hcl
    subst h1; subst h2; subst h3
    exact Or.inr ⟨q, (T.setVm vm₁).calling g' mk As.toArray, t, U', L, E, ce, hT, X', hL, e1, e2, hq, hce, hcv, vx_cls hW₁ hcl, st⟩
end Runs
section Rows
variable {p : Program} {l : Launch} {e : Env} {R : Room} {s : State} {m : MethodId} {args : Array Value} {below : List Frame} {meth : Method} {c : Code} {H : Heap} {locs : List Loc} {cells slots : Nat} {Q : State → Prop}
variable {mc ms : Nat} {free : Addr → Prop} {A0 A1 : Nat → Prop} {H0 : Heap} {a : Array Value} {pc : Nat} {ls : Array Slot} {st0 rest : List Value}
theorem vx_keep {st₀ t T' : State} {L : List Loc} (h0 : st₀.heap = H) (e1 : T'.heap = t.heap) (hS : va_S A0 H0 H locs) (hA : ∀ q, q < H.size → A1 q → A0 q) (hf : ∀ q, free q → A0 q) (hL : ∀ q ∈ L, free q.base) (hF : va_F A1 st₀ t) :
    H.size ≤ T'.heap.size ∧ (∀ q : Nat, q < H.size → ¬ A1 q → T'.heap[q]? = H[q]?) ∧ va_S A0 H0 T'.heap (locs ++ L) := by
  obtain ⟨hz, hk⟩ := hF
  rw [h0] at hz hk
  exact ⟨by rw [e1]; exact hz, fun q h1 h2 => by rw [e1]; exact hk q h1 h2,
    ⟨Nat.le_trans hS.1 (by rw [e1]; exact hz), fun q h1 h2 => by rw [e1, hk q (Nat.lt_of_lt_of_le h1 hS.1) (fun z => h2 (hA q (Nat.lt_of_lt_of_le h1 hS.1) z))]; exact hS.2.1 q h1 h2, fun q hq => by
      rcases List.mem_append.mp hq with h | h
      · exact hS.2.2 q h
      · exact hf _ (hL q h)⟩⟩
theorem vx_calli {S SX : Type} {post : Int32 → S → Prop} {px : SX → Prop} {B : S → State → Prop} {BX : String → SX → State → Prop} {AX : Nat → Prop} (hr : vx_Run p l e R s m args below meth c H locs cells slots mc ms (F0 m pc ls st0) rest (va_Qi post B A1 a) (vx_X px BX AX) free) (hS : va_S A0 H0 H locs) (hA : ∀ q, q < H.size → A1 q → A0 q) (hf : ∀ q, free q → A0 q) (hAX : ∀ q, q < H.size → AX q → A0 q)
    (kx : ∀ (E : String) (ce : Cell) (q9 : Addr) (u : SX) (t : State) (H1 : Heap) (locs1 : List Loc), t.heap = H1 → s.vm.Alike t.vm → px u → BX E u t → H.size ≤ H1.size → (∀ q : Nat, q < H.size → ¬ AX q → H1[q]? = H[q]?) → va_S A0 H0 H1 locs1 → H1[q9]? = some ce → ce.vm = .none → s.vm.findClass E = some ce.cls → vx_W p l e R s m args below meth c H1 locs1 (cells + mc) (slots + ms) Q (F0 m pc ls rest) q9)
    (kk : ∀ (r : Int32) (u : S) (t : State) (H1 : Heap) (locs1 : List Loc), t.heap = H1 → s.vm.Alike t.vm → post r u → B u t → H.size ≤ H1.size → (∀ q : Nat, q < H.size → ¬ A1 q → H1[q]? = H[q]?) → va_S A0 H0 H1 locs1 → W p l e R s m args below meth c H1 locs1 (cells + mc) (slots + ms) Q (F0 m (pc + 3) ls (.int r :: rest))) : W p l e R s m args below meth c H locs cells slots Q (F0 m pc ls st0) := by
  intro T hT X
  rcases hr T hT X with ⟨v, st₀, t, T', L, h0, X', hL, e1, e2, ⟨⟨r, u, hv, hp, hb⟩, hF⟩, st⟩ | ⟨q, st₀, t, T', L, E, ce, h0, X', hL, e1, e2, ⟨u, hp, hb, hF⟩, hce, hcv, hcl, st⟩
  · cases hv
    obtain ⟨k1, k2, k3⟩ := vx_keep h0 e1 hS hA hf hL hF
    obtain ⟨t2, a1, b1⟩ := kk r u t T'.heap (locs ++ L) e1.symm (by rw [← e2]; exact X'.warmed.alike) hp hb k1 k2 k3 T' rfl X'
    exact ⟨t2, st t2 a1, b1⟩
  · obtain ⟨k1, k2, k3⟩ := vx_keep h0 e1 hS hAX hf hL hF
    obtain ⟨t2, a1, b1⟩ := kx E ce q u t T'.heap (locs ++ L) e1.symm (by rw [← e2]; exact X'.warmed.alike) hp hb k1 k2 k3 (by rw [e1]; exact hce) hcv hcl T' rfl X'
    exact ⟨t2, st.trans a1, b1⟩
theorem vx_calll {S SX : Type} {post : Int64 → S → Prop} {px : SX → Prop} {B : S → State → Prop} {BX : String → SX → State → Prop} {AX : Nat → Prop} (hr : vx_Run p l e R s m args below meth c H locs cells slots mc ms (F0 m pc ls st0) rest (va_Ql post B A1 a) (vx_X px BX AX) free) (hS : va_S A0 H0 H locs) (hA : ∀ q, q < H.size → A1 q → A0 q) (hf : ∀ q, free q → A0 q) (hAX : ∀ q, q < H.size → AX q → A0 q)
    (kx : ∀ (E : String) (ce : Cell) (q9 : Addr) (u : SX) (t : State) (H1 : Heap) (locs1 : List Loc), t.heap = H1 → s.vm.Alike t.vm → px u → BX E u t → H.size ≤ H1.size → (∀ q : Nat, q < H.size → ¬ AX q → H1[q]? = H[q]?) → va_S A0 H0 H1 locs1 → H1[q9]? = some ce → ce.vm = .none → s.vm.findClass E = some ce.cls → vx_W p l e R s m args below meth c H1 locs1 (cells + mc) (slots + ms) Q (F0 m pc ls rest) q9)
    (kk : ∀ (r : Int64) (u : S) (t : State) (H1 : Heap) (locs1 : List Loc), t.heap = H1 → s.vm.Alike t.vm → post r u → B u t → H.size ≤ H1.size → (∀ q : Nat, q < H.size → ¬ A1 q → H1[q]? = H[q]?) → va_S A0 H0 H1 locs1 → W p l e R s m args below meth c H1 locs1 (cells + mc) (slots + ms) Q (F0 m (pc + 3) ls (.long r :: rest))) : W p l e R s m args below meth c H locs cells slots Q (F0 m pc ls st0) := by
  intro T hT X
  rcases hr T hT X with ⟨v, st₀, t, T', L, h0, X', hL, e1, e2, ⟨⟨r, u, hv, hp, hb⟩, hF⟩, st⟩ | ⟨q, st₀, t, T', L, E, ce, h0, X', hL, e1, e2, ⟨u, hp, hb, hF⟩, hce, hcv, hcl, st⟩
  · cases hv
    obtain ⟨k1, k2, k3⟩ := vx_keep h0 e1 hS hA hf hL hF
    obtain ⟨t2, a1, b1⟩ := kk r u t T'.heap (locs ++ L) e1.symm (by rw [← e2]; exact X'.warmed.alike) hp hb k1 k2 k3 T' rfl X'
    exact ⟨t2, st t2 a1, b1⟩
  · obtain ⟨k1, k2, k3⟩ := vx_keep h0 e1 hS hAX hf hL hF
    obtain ⟨t2, a1, b1⟩ := kx E ce q u t T'.heap (locs ++ L) e1.symm (by rw [← e2]; exact X'.warmed.alike) hp hb k1 k2 k3 (by rw [e1]; exact hce) hcv hcl T' rfl X'
    exact ⟨t2, st.trans a1, b1⟩
theorem vx_callf {S SX : Type} {post : UInt32 → S → Prop} {px : SX → Prop} {B : S → State → Prop} {BX : String → SX → State → Prop} {AX : Nat → Prop} (hr : vx_Run p l e R s m args below meth c H locs cells slots mc ms (F0 m pc ls st0) rest (va_Qf post B A1 a) (vx_X px BX AX) free) (hS : va_S A0 H0 H locs) (hA : ∀ q, q < H.size → A1 q → A0 q) (hf : ∀ q, free q → A0 q) (hAX : ∀ q, q < H.size → AX q → A0 q)
    (kx : ∀ (E : String) (ce : Cell) (q9 : Addr) (u : SX) (t : State) (H1 : Heap) (locs1 : List Loc), t.heap = H1 → s.vm.Alike t.vm → px u → BX E u t → H.size ≤ H1.size → (∀ q : Nat, q < H.size → ¬ AX q → H1[q]? = H[q]?) → va_S A0 H0 H1 locs1 → H1[q9]? = some ce → ce.vm = .none → s.vm.findClass E = some ce.cls → vx_W p l e R s m args below meth c H1 locs1 (cells + mc) (slots + ms) Q (F0 m pc ls rest) q9)
    (kk : ∀ (r : UInt32) (u : S) (t : State) (H1 : Heap) (locs1 : List Loc), t.heap = H1 → s.vm.Alike t.vm → post r u → B u t → H.size ≤ H1.size → (∀ q : Nat, q < H.size → ¬ A1 q → H1[q]? = H[q]?) → va_S A0 H0 H1 locs1 → W p l e R s m args below meth c H1 locs1 (cells + mc) (slots + ms) Q (F0 m (pc + 3) ls (.float r :: rest))) : W p l e R s m args below meth c H locs cells slots Q (F0 m pc ls st0) := by
  intro T hT X
  rcases hr T hT X with ⟨v, st₀, t, T', L, h0, X', hL, e1, e2, ⟨⟨r, u, hv, hp, hb⟩, hF⟩, st⟩ | ⟨q, st₀, t, T', L, E, ce, h0, X', hL, e1, e2, ⟨u, hp, hb, hF⟩, hce, hcv, hcl, st⟩
  · cases hv
    obtain ⟨k1, k2, k3⟩ := vx_keep h0 e1 hS hA hf hL hF
    obtain ⟨t2, a1, b1⟩ := kk r u t T'.heap (locs ++ L) e1.symm (by rw [← e2]; exact X'.warmed.alike) hp hb k1 k2 k3 T' rfl X'
    exact ⟨t2, st t2 a1, b1⟩
  · obtain ⟨k1, k2, k3⟩ := vx_keep h0 e1 hS hAX hf hL hF
    obtain ⟨t2, a1, b1⟩ := kx E ce q u t T'.heap (locs ++ L) e1.symm (by rw [← e2]; exact X'.warmed.alike) hp hb k1 k2 k3 (by rw [e1]; exact hce) hcv hcl T' rfl X'
    exact ⟨t2, st.trans a1, b1⟩
theorem vx_calld {S SX : Type} {post : UInt64 → S → Prop} {px : SX → Prop} {B : S → State → Prop} {BX : String → SX → State → Prop} {AX : Nat → Prop} (hr : vx_Run p l e R s m args below meth c H locs cells slots mc ms (F0 m pc ls st0) rest (va_Qd post B A1 a) (vx_X px BX AX) free) (hS : va_S A0 H0 H locs) (hA : ∀ q, q < H.size → A1 q → A0 q) (hf : ∀ q, free q → A0 q) (hAX : ∀ q, q < H.size → AX q → A0 q)
    (kx : ∀ (E : String) (ce : Cell) (q9 : Addr) (u : SX) (t : State) (H1 : Heap) (locs1 : List Loc), t.heap = H1 → s.vm.Alike t.vm → px u → BX E u t → H.size ≤ H1.size → (∀ q : Nat, q < H.size → ¬ AX q → H1[q]? = H[q]?) → va_S A0 H0 H1 locs1 → H1[q9]? = some ce → ce.vm = .none → s.vm.findClass E = some ce.cls → vx_W p l e R s m args below meth c H1 locs1 (cells + mc) (slots + ms) Q (F0 m pc ls rest) q9)
    (kk : ∀ (r : UInt64) (u : S) (t : State) (H1 : Heap) (locs1 : List Loc), t.heap = H1 → s.vm.Alike t.vm → post r u → B u t → H.size ≤ H1.size → (∀ q : Nat, q < H.size → ¬ A1 q → H1[q]? = H[q]?) → va_S A0 H0 H1 locs1 → W p l e R s m args below meth c H1 locs1 (cells + mc) (slots + ms) Q (F0 m (pc + 3) ls (.double r :: rest))) : W p l e R s m args below meth c H locs cells slots Q (F0 m pc ls st0) := by
  intro T hT X
  rcases hr T hT X with ⟨v, st₀, t, T', L, h0, X', hL, e1, e2, ⟨⟨r, u, hv, hp, hb⟩, hF⟩, st⟩ | ⟨q, st₀, t, T', L, E, ce, h0, X', hL, e1, e2, ⟨u, hp, hb, hF⟩, hce, hcv, hcl, st⟩
  · cases hv
    obtain ⟨k1, k2, k3⟩ := vx_keep h0 e1 hS hA hf hL hF
    obtain ⟨t2, a1, b1⟩ := kk r u t T'.heap (locs ++ L) e1.symm (by rw [← e2]; exact X'.warmed.alike) hp hb k1 k2 k3 T' rfl X'
    exact ⟨t2, st t2 a1, b1⟩
  · obtain ⟨k1, k2, k3⟩ := vx_keep h0 e1 hS hAX hf hL hF
    obtain ⟨t2, a1, b1⟩ := kx E ce q u t T'.heap (locs ++ L) e1.symm (by rw [← e2]; exact X'.warmed.alike) hp hb k1 k2 k3 (by rw [e1]; exact hce) hcv hcl T' rfl X'
    exact ⟨t2, st.trans a1, b1⟩
theorem vx_callv {S SX : Type} {post : S → Prop} {px : SX → Prop} {B : S → State → Prop} {BX : String → SX → State → Prop} {AX : Nat → Prop} (hr : vx_Run p l e R s m args below meth c H locs cells slots mc ms (F0 m pc ls st0) rest (va_Qv post B A1 a) (vx_X px BX AX) free) (hS : va_S A0 H0 H locs) (hA : ∀ q, q < H.size → A1 q → A0 q) (hf : ∀ q, free q → A0 q) (hAX : ∀ q, q < H.size → AX q → A0 q)
    (kx : ∀ (E : String) (ce : Cell) (q9 : Addr) (u : SX) (t : State) (H1 : Heap) (locs1 : List Loc), t.heap = H1 → s.vm.Alike t.vm → px u → BX E u t → H.size ≤ H1.size → (∀ q : Nat, q < H.size → ¬ AX q → H1[q]? = H[q]?) → va_S A0 H0 H1 locs1 → H1[q9]? = some ce → ce.vm = .none → s.vm.findClass E = some ce.cls → vx_W p l e R s m args below meth c H1 locs1 (cells + mc) (slots + ms) Q (F0 m pc ls rest) q9)
    (kk : ∀ (u : S) (t : State) (H1 : Heap) (locs1 : List Loc), t.heap = H1 → s.vm.Alike t.vm → post u → B u t → H.size ≤ H1.size → (∀ q : Nat, q < H.size → ¬ A1 q → H1[q]? = H[q]?) → va_S A0 H0 H1 locs1 → W p l e R s m args below meth c H1 locs1 (cells + mc) (slots + ms) Q (F0 m (pc + 3) ls (rest))) : W p l e R s m args below meth c H locs cells slots Q (F0 m pc ls st0) := by
  intro T hT X
  rcases hr T hT X with ⟨v, st₀, t, T', L, h0, X', hL, e1, e2, ⟨⟨u, hv, hp, hb⟩, hF⟩, st⟩ | ⟨q, st₀, t, T', L, E, ce, h0, X', hL, e1, e2, ⟨u, hp, hb, hF⟩, hce, hcv, hcl, st⟩
  · cases hv
    obtain ⟨k1, k2, k3⟩ := vx_keep h0 e1 hS hA hf hL hF
    obtain ⟨t2, a1, b1⟩ := kk u t T'.heap (locs ++ L) e1.symm (by rw [← e2]; exact X'.warmed.alike) hp hb k1 k2 k3 T' rfl X'
    exact ⟨t2, st t2 a1, b1⟩
  · obtain ⟨k1, k2, k3⟩ := vx_keep h0 e1 hS hAX hf hL hF
    obtain ⟨t2, a1, b1⟩ := kx E ce q u t T'.heap (locs ++ L) e1.symm (by rw [← e2]; exact X'.warmed.alike) hp hb k1 k2 k3 (by rw [e1]; exact hce) hcv hcl T' rfl X'
    exact ⟨t2, st.trans a1, b1⟩
/-- caught by the row x of this method's table; the rows ahead don't take it -/
theorem vx_catch {own name : String} {E : String} {ce : Cell} {q : Addr} (hown : s.vm.findClass own = some m.cls) (pre : List ExceptionTableEntry) (x : ExceptionTableEntry) (suf : List ExceptionTableEntry) (hsplit : c.exceptionTable.toList = pre ++ x :: suf)
    (hpass : ∀ z ∈ pre, covers z pc = false ∨ (z.catchType ≠ 0 ∧ ∃ nm : String, (Cond.classLink own z.catchType nm).before args s = true ∧ va_Nc E nm s)) (hx : covers x pc = true) (h0 : x.catchType ≠ 0)
    (hlink : (Cond.classLink own x.catchType name).before args s = true) (hcast : (Cond.castable E name).before args s = true) (hcell : H[q]? = some ce) (hv : ce.vm = .none) (hcl : s.vm.findClass E = some ce.cls)
    (kk : W p l e R s m args below meth c H locs cells slots Q (F0 m x.handlerPc ls [.ref q])) : vx_W p l e R s m args below meth c H locs cells slots Q (F0 m pc ls rest) q := by
  intro T hT X
  have hpl : e.platform.magicAccessors = ({} : Platform).magicAccessors := by rw [X.admits.platform]
  obtain ⟨c3, c4, hc3, hc4, hasg⟩ := Cond.castable_spec hcast
  cases Option.some.inj (hc3.symm.trans hcl)
  obtain ⟨c5, hc5, hcl5⟩ := Cond.classLink_spec hown hlink e.platform hpl
  cases Option.some.inj (hc4.symm.trans hc5)
  obtain ⟨vm', X', st⟩ := kc_caught X q (g := F0 m pc ls rest) rfl (by rw [hT]; exact hcell) (by rw [hv]; rfl) (by obtain ⟨k9, h9, -⟩ := Vm.findClass_spec hcl; exact ⟨k9, h9⟩) pre x suf hsplit
    (fun z hz => by
      rcases hpass z hz with h | ⟨hz0, nm, hl1, hn1⟩
      · exact Or.inl h
      · obtain ⟨c6, hc6, hcl6⟩ := Cond.classLink_spec hown hl1 e.platform hpl
        obtain ⟨a8, b8, h1, h2, h3⟩ := hn1
        cases Option.some.inj (h1.symm.trans hcl)
        cases Option.some.inj (h2.symm.trans hc6)
        exact Or.inr ⟨hz0, _, hcl6, h3⟩) hx h0 hcl5 hasg
  obtain ⟨t, a1, b1⟩ := kk (T.setVm vm') hT X'
  exact ⟨t, st.trans a1, b1⟩
end Rows
section Ends
variable {p : Program} {l : Launch} {e : Env} {R : Room} {s : State} {m : MethodId} {args : Array Value} {below : List Frame} {meth : Method} {c : Code} {H : Heap} {locs : List Loc} {cells slots : Nat} {Q : State → Prop}
variable {mc ms : Nat} {free : Addr → Prop} {A0 A1 : Nat → Prop} {H0 : Heap} {a : Array Value} {ls : Array Slot} {st0 rest : List Value}
variable {Qc : Array Value → State → Outcome → State → Prop} {XC : String → State → State → Prop}
/-- what a body that may throw owes at its end -/
def vx_MQ (below : List Frame) (Qc : Array Value → State → Outcome → State → Prop) (XC : String → State → State → Prop) (a : Array Value) (s : State) (mc ms : Nat) (free : Addr → Prop) : State → Prop := fun t =>
  ∃ o, t.status = .running ∧ Ended t below o ∧ vx_Q Qc XC mc ms free a s o t
theorem vx_ret {g : JFrame} {mc ms : Nat} (k : W p l e R s m args below meth c H locs cells slots (MQ below Qc args s mc ms free) g) : W p l e R s m args below meth c H locs cells slots (vx_MQ below Qc XC args s mc ms free) g := by
  intro T hT X
  obtain ⟨t, a1, o, b1, b2, b3, b4⟩ := k T hT X
  exact ⟨t, a1, o, b1, b2, Or.inl ⟨b3, b4⟩⟩
/-- not caught here: it goes on to the caller -/
theorem vx_widen {g : JFrame} {q : Addr} {k n : Nat} (h1 : cells ≤ k) (h2 : slots ≤ n) (kk : vx_W p l e R s m args below meth c H locs k n Q g q) : vx_W p l e R s m args below meth c H locs cells slots Q g q := fun T hT X => kk T hT (stand_widen X h1 h2)
theorem vx_out {pc : Nat} {E : String} {ce : Cell} {q : Addr} {mc ms : Nat} (hout : ∀ x ∈ c.exceptionTable.toList, covers x pc = false) (hlocks : meth.locks = false) (hcell : H[q]? = some ce) (hv : ce.vm = .none) (hcl : s.vm.findClass E = some ce.cls)
    (hx : ∀ t : State, t.heap = H → s.vm.Alike t.vm → XC E s t) (hf : ∀ z ∈ locs, free z.base) (hc : cells ≤ mc) (hs : slots ≤ ms) :
    vx_W p l e R s m args below meth c H locs cells slots (vx_MQ below Qc XC args s mc ms free) (F0 m pc ls rest) q := by
  intro T hT X
  obtain ⟨st1, hrun, hend, hW, hsm⟩ := X.leaveThrown q (g := F0 m pc ls rest) rfl rfl rfl hout hlocks
  have hcell9 : (T.setFrames (.throwing q :: below)).heap[q]? = some ce := by
    show T.heap[q]? = some ce
    rw [hT]; exact hcell
  exact ⟨_, st1, .threw q, hrun, hend, Or.inr ⟨q, rfl, E, ce, locs, hx _ hT hW.alike, hcell9, hv, hcl, hW, hsm.mono hc hs, hf⟩⟩
theorem vx_frame {U : State} {k n : Nat} (h : s.sameButNew ({ U with vm := s.vm } : State) locs k n) : s.heap.size ≤ U.heap.size ∧ ∀ q : Nat, q < s.heap.size → (∀ z ∈ locs, z.base ≠ q) → U.heap[q]? = s.heap[q]? := by
  obtain ⟨-, h2, -, -, -, h6⟩ := h
  refine ⟨h2, fun q hq hz => ?_⟩
  obtain ⟨c9, e1, e2, e3, e4⟩ := h6 q _ (Array.getElem?_eq_getElem hq)
  have hs : c9.slots = (s.heap[q]).slots := Array.ext_getElem? fun i => e4 i fun hm => hz _ hm rfl
  have h9 : c9 = s.heap[q] := by
    rw [hs] at e2
    exact e2
  have e5 : U.heap[q]? = some c9 := e1
  rw [e5, h9, Array.getElem?_eq_getElem hq]
/-- the words of a throw but the four that speak of the heap -/
def vx_no (w : Cond) : Bool := decide (w ≠ .isRef (.static Bundle.tN "UNASSIGNED_STACK" Bundle.steD)) && decide (w ≠ .isRef (.static Bundle.tN "SUPPRESSED_SENTINEL" Bundle.listD)) && decide (w ≠ .laysStatic Bundle.tN "UNASSIGNED_STACK" Bundle.steD) && decide (w ≠ .laysStatic Bundle.tN "SUPPRESSED_SENTINEL" Bundle.listD)
def vx_at0 (own : String) (ic : Nat) (X : String) (names : List String) : List Cond := (Bundle.ownAtoms0 own ic X names).filter vx_no
def vx_atS (own : String) (ic : Nat) (X : String) (names : List String) : List Cond := (Bundle.ownAtoms own ic X names).filter vx_no
/-- a word that the tables alone decide, or a good one -/
def vx_ot (w : Cond) : Bool := w.onTables || goodWord w
theorem vx_ot_at {args a' : Array Value} {s U : State} {w : Cond} (hW : s.WarmedH U.vm) (hvm : s.vm = U.vm) (hg : vx_ot w = true) (h : w.before args s = true) : w.before a' U = true := by
  simp only [vx_ot, Bool.or_eq_true] at hg
  rcases hg with hg | hg
  · exact va_tabs hg hvm h
  · exact word_at hW (good_of_word hg) h
/-- a list's words: the good ones out of the method's own list, the others by premises of their own -/
theorem vx_hat {args : Array Value} {s : State} {L B : List Cond} (h1 : ∀ w ∈ L.filter goodWord, w.before args s = true) (h2 : ∀ w ∈ L.filter (fun w => !goodWord w), w ∈ B) (h3 : ∀ w ∈ B, w.before args s = true) : ∀ w ∈ L, w.before args s = true := by
  intro w hw
  by_cases g : goodWord w = true
  · exact h1 w (List.mem_filter.mpr ⟨hw, g⟩)
  · refine h3 w (h2 w (List.mem_filter.mpr ⟨hw, ?_⟩))
    show (!goodWord w) = true
    cases hgw : goodWord w
    · rfl
    · exact absurd hgw g
theorem vx_c {args : Array Value} {s : State} {w : Cond} {B : List Cond} (h : w.before args s = true) (t : ∀ w ∈ B, w.before args s = true) : ∀ w' ∈ w :: B, w'.before args s = true := fun w' h' => (List.mem_cons.mp h').elim (fun e => by rw [e]; exact h) (t w')
theorem vx_n {args : Array Value} {s : State} : ∀ w ∈ ([] : List Cond), w.before args s = true := fun _ h => nomatch h
theorem vx_own {args : Array Value} {s : State} {L : List Cond} (h1 : ∀ w ∈ L.filter vx_no, w.before args s = true)
    (hU : (Cond.isRef (.static Bundle.tN "UNASSIGNED_STACK" Bundle.steD)).before args s = true) (hN : (Cond.isRef (.static Bundle.tN "SUPPRESSED_SENTINEL" Bundle.listD)).before args s = true)
    (lU : (Cond.laysStatic Bundle.tN "UNASSIGNED_STACK" Bundle.steD).before args s = true) (lN : (Cond.laysStatic Bundle.tN "SUPPRESSED_SENTINEL" Bundle.listD).before args s = true) : ∀ w ∈ L, w.before args s = true := by
  intro w hw
  by_cases e1 : w = .isRef (.static Bundle.tN "UNASSIGNED_STACK" Bundle.steD)
  · rw [e1]; exact hU
  · by_cases e2 : w = .isRef (.static Bundle.tN "SUPPRESSED_SENTINEL" Bundle.listD)
    · rw [e2]; exact hN
    · by_cases e3 : w = .laysStatic Bundle.tN "UNASSIGNED_STACK" Bundle.steD
      · rw [e3]; exact lU
      · by_cases e4 : w = .laysStatic Bundle.tN "SUPPRESSED_SENTINEL" Bundle.listD
        · rw [e4]; exact lN
        · exact h1 w (List.mem_filter.mpr ⟨hw, by unfold vx_no; rw [decide_eq_true e1, decide_eq_true e2, decide_eq_true e3, decide_eq_true e4]; rfl⟩)
/-- where a static field lies, its class's statics cell in H -/
def vx_L (C n d : String) (A : Nat → Prop) (U : State) (H : Heap) : Prop := ∃ (c : ClassId) (k : Class) (i : Nat) (f : Field) (a : Nat) (cell : Cell), U.vm.findClass C = some c ∧ U.fieldFound? C n d = some (c, k, i, f) ∧ f.isStatic = true ∧ k.statics = some a ∧ H[a]? = some cell ∧ cell.vm.isStatics = true ∧ cell.cls = c ∧ f.slot < cell.slots.size ∧ k.staticTypes[f.slot]? = some f.type ∧ ¬ A a
theorem vx_L.moved {C n d : String} {A : Nat → Prop} {u U : State} {H : Heap} (hvm : u.vm.Alike U.vm) (h : vx_L C n d A u H) : vx_L C n d A U H := by
  obtain ⟨c, k, i, f, a, cell, h1, h2, h3, h4, h5, h6, h7, h8, h9, h10⟩ := h
  obtain ⟨k', hi', he⟩ := State.fieldFound?_setVm hvm h2
  exact ⟨c, k', i, f, a, cell, by rw [hvm.findClass]; exact h1, hi', h3, by rw [he]; exact h4, h5, h6, h7, h8, by rw [he]; exact h9, h10⟩
theorem vx_L.kept {C n d : String} {A : Nat → Prop} {U : State} {H H1 : Heap} (h : vx_L C n d A U H) (hq : ∀ a : Nat, a < H.size → ¬ A a → H1[a]? = H[a]?) : vx_L C n d A U H1 := by
  obtain ⟨c, k, i, f, a, cell, h1, h2, h3, h4, h5, h6, h7, h8, h9, h10⟩ := h
  exact ⟨c, k, i, f, a, cell, h1, h2, h3, h4, by rw [hq a (Array.getElem?_eq_some_iff.mp h5).1 h10]; exact h5, h6, h7, h8, h9, h10⟩
theorem vx_L.narrow {C n d : String} {A B : Nat → Prop} {U : State} {H : Heap} (h : vx_L C n d A U H) (hAB : ∀ q, B q → A q) : vx_L C n d B U H := by
  obtain ⟨c, k, i, f, a, cell, h1, h2, h3, h4, h5, h6, h7, h8, h9, h10⟩ := h
  exact ⟨c, k, i, f, a, cell, h1, h2, h3, h4, h5, h6, h7, h8, h9, fun z => h10 (hAB _ z)⟩
theorem vx_L.word {C n d : String} {A : Nat → Prop} {s : State} {args : Array Value} (h : vx_L C n d A s s.heap) : (Cond.laysStatic C n d).before args s = true := by
  obtain ⟨c, k, i, f, a, cell, h1, h2, h3, h4, h5, h6, h7, h8, h9, -⟩ := h
  show (Cond.laysStatic C n d).holds args s none s [] = true
  exact Cond.laysStatic_of h1 h2 h3 h4 h5 h6 h7 h8 h9
/-- .. and what it holds: null or some reference -/
def vx_Zq (C n d : String) (A : Nat → Prop) (U : State) (H : Heap) : Prop := va_Zq C n d A U H ∧ vx_L C n d A U H
theorem vx_Zq.moved {C n d : String} {A : Nat → Prop} {u U : State} {H : Heap} (hvm : u.vm.Alike U.vm) (h : vx_Zq C n d A u H) : vx_Zq C n d A U H := ⟨va_Zq.moved hvm h.1, vx_L.moved hvm h.2⟩
theorem vx_Zq.kept {C n d : String} {A : Nat → Prop} {U : State} {H H1 : Heap} (h : vx_Zq C n d A U H) (hq : ∀ a : Nat, a < H.size → ¬ A a → H1[a]? = H[a]?) : vx_Zq C n d A U H1 := ⟨va_Zq.kept h.1 hq, vx_L.kept h.2 hq⟩
theorem vx_Zq.narrow {C n d : String} {A B : Nat → Prop} {U : State} {H : Heap} (h : vx_Zq C n d A U H) (hAB : ∀ q, B q → A q) : vx_Zq C n d B U H := ⟨va_Zq.narrow h.1 hAB, vx_L.narrow h.2 hAB⟩
theorem vx_Zqof {args : Array Value} {s : State} {C n d : String} {A : Nat → Prop} (hl : (Cond.laysStatic C n d).before args s = true) (hini : (Cond.initialized C).before args s = true) (h : (Cond.isRef (.static C n d)).before args s = true) (hA : ∀ a : Nat, a < s.heap.size → ¬ A a) : vx_Zq C n d A s s.heap := by
  refine ⟨va_Zqof hl hini h hA, ?_⟩
  obtain ⟨c, k, i, f, a, cell, h1, h2, h3, h4, h5, h6, h7, h8, h9⟩ := Cond.laysStatic_spec hl
  exact ⟨c, k, i, f, a, cell, h1, h2, h3, h4, h5, h6, h7, h8, h9, hA a (Array.getElem?_eq_some_iff.mp h5).1⟩
theorem vx_isRef {C n d : String} {v : Value} {A : Nat → Prop} {s : State} {args : Array Value} (h : va_Z C n d v A s s.heap) (hv : v.isRef = true) : (Cond.isRef (.static C n d)).before args s = true := by
  obtain ⟨cf, kf, fi, f, a, cell, h1, h2, h3, h4, h5, h6, h7, -⟩ := h
  have he : (Term.static C n d).eval args s none [] s = some v := by
    simp [Term.eval, State.fieldNamed?, h1, h2, h4, h5, h6, h7]
  simp only [Cond.before, Cond.holds, Cond.value, he]
  cases v <;> simp_all [Value.isRef]
theorem vx_isRefq {C n d : String} {A : Nat → Prop} {s : State} {args : Array Value} (h : va_Zq C n d A s s.heap) : (Cond.isRef (.static C n d)).before args s = true := by
  rcases h with h | ⟨t, h⟩
  · exact vx_isRef h rfl
  · exact vx_isRef h rfl
/-- the same frame, seen from here: as if the method were called anew in this heap -/
theorem vx_rebase {T : State} (X : Stand p l e R s m args below meth c T locs cells slots) {R' : Room} (hf : R'.frames ≤ R.frames) (hl : R'.locals ≤ R.locals) (hc : cells + R'.cells ≤ R.cells) (hs : slots + R'.slots ≤ R.slots) :
    Stand p l e R' ((T.setVm s.vm).setFrames (.invoking m args :: below)) m args below meth c T [] 0 0 := by
  have htop : (T.setVm s.vm).topJava?.isSome := X.here.top
  have hF : ((T.setVm s.vm).setFrames (.invoking m args :: below)).frames = .invoking m args :: below := State.frames_setFrames _ (State.cur_lt_of_top htop)
  obtain ⟨g₀, hg0⟩ := Option.isSome_iff_exists.mp htop
  obtain ⟨r, hr⟩ := State.topJava?_eq_some.mp hg0
  have hl9 : e.platform.stackLimits (T.setVm s.vm).me = e.platform.stackLimits s.me := X.limits
  have hb9 : (T.setVm s.vm).me.stackBytes = s.me.stackBytes := X.bytes
  refine ⟨X.admits, X.cas, X.clock, hF, ?_, X.hears, X.method, X.code, X.here, X.tail, X.warmed, ?_, ?_, ?_⟩
  · have h := X.room
    have hU : ((T.setVm s.vm).setFrames (.invoking m args :: below)).localsInUse = s.localsInUse := by
      rw [State.localsInUse_invoking hF (meth := meth) (c := c) X.method X.code, State.localsInUse_invoking X.frames X.method X.code]
    simp only [State.hasRoom, Bool.and_eq_true, decide_eq_true_eq] at h ⊢
    obtain ⟨⟨⟨⟨h1, h2, h3, h4, h5, h6⟩, h7⟩, h8⟩, h9⟩ := h
    rw [X.frames, List.length_cons] at h2 h3
    have q1 := X.heapSize
    have q2 := X.used
    simp only [hF, hU, List.length_cons, State.stackLimits_setFrames, State.stackBytes_setFrames, hl9, hb9]
    refine ⟨⟨⟨⟨by omega, by omega, by omega, by omega, by omega, h6⟩, ?_⟩, ?_⟩, X.book⟩
    · show T.heap.size + R'.cells ≤ e.platform.maxCells
      omega
    · show T.slotsUsed + R'.slots ≤ e.platform.maxSlots
      omega
  · rw [State.stackLimits_setFrames]; rfl
  · rw [State.stackBytes_setFrames]; rfl
  · refine ⟨?_, Nat.le_refl _, Nat.le_refl _, ?_, ?_, fun a c9 h9 => ⟨c9, h9, rfl, rfl, fun _ _ => rfl⟩⟩
    · obtain ⟨t, ht, -⟩ := State.frames_cons hr
      show T.setVm s.vm = { ((T.setVm s.vm).setFrames (.invoking m args :: below)).setFrames (T.setVm s.vm).frames with heap := T.heap, slotsUsed := T.slotsUsed }
      rw [State.setFrames_setFrames, State.setFrames_self ht]
      rfl
    · show T.slotsUsed = T.slotsUsed + ((T.heap.toList.drop T.heap.size).map (·.slots.size)).sum
      rw [List.drop_eq_nil_of_le (Nat.le_of_eq Array.length_toList)]
      rfl
    · show ((T.heap.toList.drop T.heap.size).map (·.slots.size)).sum ≤ 0
      rw [List.drop_eq_nil_of_le (Nat.le_of_eq Array.length_toList)]
      exact Nat.le_refl _
/-- 'throw new E()': new; dup; invokespecial; athrow -/
theorem vx_throw0 {cc : ByteArray} {pc : Nat} (hexec : p.tables.exec = Jvm.exec) (hb : c.code = cc) (hl : l.stackTraces = false) {own cls : String} {names : List String} {ik ic mc ms : Nat} {A : Nat → Prop}
    (hown : s.vm.findClass own = some m.cls) (hcls : Bundle.fit cls = true) (hnames : ∀ n ∈ names, Bundle.fit n = true)
    (hk : (Cond.classLink own ik cls).before args s = true) (hini : (Cond.initialized cls).before args s = true) (hat : ∀ w ∈ vx_at0 own ic cls names, w.before args s = true)
    (hgood : ∀ w ∈ Cond.classLink own ik cls :: Cond.initialized cls :: vx_at0 own ic cls names, vx_ot w = true)
    (hU : vx_Zq Bundle.tN "UNASSIGNED_STACK" Bundle.steD A s s.heap) (hN : vx_Zq Bundle.tN "SUPPRESSED_SENTINEL" Bundle.listD A s s.heap) (hS : va_S A s.heap H locs) (hsize : ls.size = c.maxLocals)
    (d0 : decode cc pc = .ok (.new ik, 3)) (d3 : decode cc (pc + 3) = .ok (.dup, 1)) (d4 : decode cc (pc + 4) = .ok (.invokespecial ic, 3)) (d7 : decode cc (pc + 7) = .ok (.athrow, 1))
    (hout : ∀ x ∈ c.exceptionTable.toList, covers x (pc + 7) = false)
    (hRframes : names.length + 3 < R.frames) (hRlocals : (rest.map fun v => v.category).sum + (13 * (names.length + 1) + 42) ≤ R.locals) (hRcells : cells + 1 ≤ R.cells) (hRslots : slots + 6 ≤ R.slots) (hlocks : meth.locks = false)
    (hx : ∀ t : State, s.vm.Alike t.vm → H.size ≤ t.heap.size → (∀ q : Nat, q < H.size → t.heap[q]? = H[q]?) → XC cls s t)
    (hf : ∀ z ∈ locs, free z.base) (hc : cells + 1 ≤ mc) (hs : slots + 6 ≤ ms) :
    W p l e R s m args below meth c H locs cells slots (vx_MQ below Qc XC args s mc ms free) (F0 m pc ls rest) := by
  intro T hT X
  have htr : e.platform.stackTraces = false := (show e.platform.stackTraces = l.stackTraces by rw [X.admits.platform]).trans hl
  have Y := vx_rebase X (R' := { frames := R.frames, locals := R.locals, cells := 1, slots := 6 }) (Nat.le_refl _) (Nat.le_refl _) hRcells hRslots
  obtain ⟨s', hA⟩ : ∃ z, z = (T.setVm s.vm).setFrames (.invoking m args :: below) := ⟨_, rfl⟩
  rw [← hA] at Y
  have hvm : s'.vm = s.vm := by rw [hA]; rfl
  have hhp : s'.heap = H := by rw [hA]; exact hT
  have hW0 : s.WarmedH s'.vm := by rw [hvm]; exact State.WarmedH.refl s
  have hat' : ∀ w ∈ vx_at0 own ic cls names, w.before args s' = true := fun w hw => vx_ot_at hW0 hvm.symm (hgood w (List.mem_cons_of_mem _ (List.mem_cons_of_mem _ hw))) (hat w hw)
  have hk' : (Cond.classLink own ik cls).before args s' = true := vx_ot_at hW0 hvm.symm (hgood _ List.mem_cons_self) hk
  have hini' : (Cond.initialized cls).before args s' = true := vx_ot_at hW0 hvm.symm (hgood _ (List.mem_cons_of_mem _ List.mem_cons_self)) hini
  have hU' : vx_Zq Bundle.tN "UNASSIGNED_STACK" Bundle.steD A s' s'.heap := by rw [hhp]; exact vx_Zq.moved hW0.alike (hU.kept hS.2.1)
  have hN' : vx_Zq Bundle.tN "SUPPRESSED_SENTINEL" Bundle.listD A s' s'.heap := by rw [hhp]; exact vx_Zq.moved hW0.alike (hN.kept hS.2.1)
  have h : ∀ w ∈ Bundle.ownAtoms0 own ic cls names, w.before args s' = true := vx_own hat' (vx_isRefq hU'.1) (vx_isRefq hN'.1) hU'.2.word hN'.2.word
  have hown' : s'.vm.findClass own = some m.cls := by rw [hvm]; exact hown
  have hins : (Cond.instantiable cls 6).before args s' = true := h _ (by simp [Bundle.ownAtoms0])
  obtain ⟨vm₁, cX, kX, hfX, hkX, -, -, X₁, st1⟩ := Y.newCold hexec (own := own) (C := cls) (index := ik) (n := 6) hown' hk' hins hini'
    (g := F0 m pc ls rest) rfl (by rw [hb]; exact d0) (Nat.le_refl _) (Nat.le_refl _)
  generalize hT1 : (T.setVm vm₁).pushCell { cls := cX, slots := kX.instanceTypes.map defaultValue, vm := .none } = T1 at X₁ st1
  have hcat : (Value.ref T.heap.size).category = 1 := rfl
  have hcellA : T1.heap[T.heap.size]? = some (freshCell cX kX) := by rw [← hT1]; exact State.heap_pushCell_size _ _
  have d3' : decode c.code (pc + 3) = .ok (.dup, 1) := by rw [hb]; exact d3
  obtain ⟨U, hsteps, hrun, hend, hW, hsame, ce, hce, hO⟩ := X₁.ctorThrow0 hexec htr (own := own) (cls := cls) (names := names) (ic := ic) hown' hcls hnames h (fun x hx => nomatch hx) hfX hkX hcellA (by rw [hhp, hT]; exact Nat.le_refl _)
    (g := { method := m, pc := pc + 4, locals := ls, stack := .ref T.heap.size :: .ref T.heap.size :: rest, locked := none }) rfl hsize rfl rfl (rest := rest) rfl
    (by rw [hb]; exact d4) (by rw [hb]; exact d7) hout hRframes (by simp only [List.map_cons, List.sum_cons, hcat]; omega) hlocks
  obtain ⟨f1, f2⟩ := vx_frame hsame
  rw [hhp] at f1 f2
  have hWs : s.WarmedH U.vm := State.WarmedH.trans hW0 hW
  have hcl : s.vm.findClass cls = some ce.cls := by
    have h9 := hO.cls
    rw [hvm] at h9
    exact h9
  have hall : s.sameButNew ({ U with vm := s.vm } : State) locs mc ms := by
    subst hA
    obtain ⟨e1, e2⟩ := hsame
    rw [State.setFrames_setFrames] at e1
    have h2 : (T.setVm s.vm).sameButNew ({ U with vm := s.vm } : State) [] (0 + 1) (0 + 6) := ⟨e1, e2⟩
    have h3 := X.same.trans h2
    rw [List.append_nil] at h3
    exact h3.mono hc hs
  refine ⟨U, ?_, .threw T.heap.size, hrun, hend, Or.inr ⟨T.heap.size, rfl, cls, ce, locs, hx U hWs.alike f1 (fun q hq => f2 q hq (fun z hz => nomatch hz)), hce, hO.vm, hcl, hWs, hall, hf⟩⟩
  refine st1 _ ?_
  show Steps p.tables e below (T1.setTop { method := m, pc := pc + 3, locals := ls, stack := .ref T.heap.size :: rest, locked := none }) _
  jvm_step X₁.here [X₁.here.top, hexec, d3', Value.category]
  exact hsteps
/-- 'throw new E("text")': new; dup; ldc; invokespecial; athrow -/
theorem vx_throwS {cc : ByteArray} {pc : Nat} (hexec : p.tables.exec = Jvm.exec) (hb : c.code = cc) (hl : l.stackTraces = false) {own cls text : String} {names : List String} {ik is ic mc ms sa : Nat} {A : Nat → Prop}
    (hown : s.vm.findClass own = some m.cls) (hcls : Bundle.fit cls = true) (hnames : ∀ n ∈ names, Bundle.fit n = true)
    (hk : (Cond.classLink own ik cls).before args s = true) (hini : (Cond.initialized cls).before args s = true) (hstr : vk_R own is text sa s) (hat : ∀ w ∈ vx_atS own ic cls names, w.before args s = true)
    (hgood : ∀ w ∈ Cond.classLink own ik cls :: Cond.initialized cls :: vx_atS own ic cls names, vx_ot w = true)
    (hU : vx_Zq Bundle.tN "UNASSIGNED_STACK" Bundle.steD A s s.heap) (hN : vx_Zq Bundle.tN "SUPPRESSED_SENTINEL" Bundle.listD A s s.heap) (hS : va_S A s.heap H locs) (hsize : ls.size = c.maxLocals)
    (d0 : decode cc pc = .ok (.new ik, 3)) (d3 : decode cc (pc + 3) = .ok (.dup, 1)) (d4 : decode cc (pc + 4) = .ok (.ldc is, 2)) (d6 : decode cc (pc + 6) = .ok (.invokespecial ic, 3)) (d9 : decode cc (pc + 9) = .ok (.athrow, 1))
    (hout : ∀ x ∈ c.exceptionTable.toList, covers x (pc + 9) = false)
    (hRframes : names.length + 3 < R.frames) (hRlocals : (rest.map fun v => v.category).sum + (13 * (names.length + 1) + 43) ≤ R.locals) (hRcells : cells + 1 ≤ R.cells) (hRslots : slots + 6 ≤ R.slots) (hlocks : meth.locks = false)
    (hx : ∀ t : State, s.vm.Alike t.vm → H.size ≤ t.heap.size → (∀ q : Nat, q < H.size → t.heap[q]? = H[q]?) → XC cls s t)
    (hf : ∀ z ∈ locs, free z.base) (hc : cells + 1 ≤ mc) (hs : slots + 6 ≤ ms) :
    W p l e R s m args below meth c H locs cells slots (vx_MQ below Qc XC args s mc ms free) (F0 m pc ls rest) := by
  intro T hT X
  have htr : e.platform.stackTraces = false := (show e.platform.stackTraces = l.stackTraces by rw [X.admits.platform]).trans hl
  have Y := vx_rebase X (R' := { frames := R.frames, locals := R.locals, cells := 1, slots := 6 }) (Nat.le_refl _) (Nat.le_refl _) hRcells hRslots
  obtain ⟨s', hA⟩ : ∃ z, z = (T.setVm s.vm).setFrames (.invoking m args :: below) := ⟨_, rfl⟩
  rw [← hA] at Y
  have hvm : s'.vm = s.vm := by rw [hA]; rfl
  have hhp : s'.heap = H := by rw [hA]; exact hT
  have hW0 : s.WarmedH s'.vm := by rw [hvm]; exact State.WarmedH.refl s
  have hat' : ∀ w ∈ vx_atS own ic cls names, w.before args s' = true := fun w hw => vx_ot_at hW0 hvm.symm (hgood w (List.mem_cons_of_mem _ (List.mem_cons_of_mem _ hw))) (hat w hw)
  have hk' : (Cond.classLink own ik cls).before args s' = true := vx_ot_at hW0 hvm.symm (hgood _ List.mem_cons_self) hk
  have hini' : (Cond.initialized cls).before args s' = true := vx_ot_at hW0 hvm.symm (hgood _ (List.mem_cons_of_mem _ List.mem_cons_self)) hini
  have hU' : vx_Zq Bundle.tN "UNASSIGNED_STACK" Bundle.steD A s' s'.heap := by rw [hhp]; exact vx_Zq.moved hW0.alike (hU.kept hS.2.1)
  have hN' : vx_Zq Bundle.tN "SUPPRESSED_SENTINEL" Bundle.listD A s' s'.heap := by rw [hhp]; exact vx_Zq.moved hW0.alike (hN.kept hS.2.1)
  have h : ∀ w ∈ Bundle.ownAtoms own ic cls names, w.before args s' = true := vx_own hat' (vx_isRefq hU'.1) (vx_isRefq hN'.1) hU'.2.word hN'.2.word
  have hown' : s'.vm.findClass own = some m.cls := by rw [hvm]; exact hown
  have hins : (Cond.instantiable cls 6).before args s' = true := h _ (by simp [Bundle.ownAtoms])
  obtain ⟨vm₁, cX, kX, hfX, hkX, -, -, X₁, st1⟩ := Y.newCold hexec (own := own) (C := cls) (index := ik) (n := 6) hown' hk' hins hini'
    (g := F0 m pc ls rest) rfl (by rw [hb]; exact d0) (Nat.le_refl _) (Nat.le_refl _)
  generalize hT1 : (T.setVm vm₁).pushCell { cls := cX, slots := kX.instanceTypes.map defaultValue, vm := .none } = T1 at X₁ st1
  have hcat : (Value.ref T.heap.size).category = 1 := rfl
  have hcellA : T1.heap[T.heap.size]? = some (freshCell cX kX) := by rw [← hT1]; exact State.heap_pushCell_size _ _
  have d3' : decode c.code (pc + 3) = .ok (.dup, 1) := by rw [hb]; exact d3
  have d4' : decode c.code (pc + 4) = .ok (.ldc is, 2) := by rw [hb]; exact d4
  have hstr' : vk_R own is text sa s' := vk_R.warm hW0 hstr
  obtain ⟨U, hsteps, hrun, hend, hW, hsame, ce, hce, hO⟩ := X₁.ctorThrowS hexec htr (own := own) (cls := cls) (names := names) (ic := ic) hown' hcls hnames h (fun x hx => nomatch hx) hfX hkX hcellA (by rw [hhp, hT]; exact Nat.le_refl _) (msg := .ref sa) rfl
    (g := { method := m, pc := pc + 6, locals := ls, stack := .ref sa :: .ref T.heap.size :: .ref T.heap.size :: rest, locked := none }) rfl hsize rfl rfl (rest := rest) rfl
    (by rw [hb]; exact d6) (by rw [hb]; exact d9) hout hRframes (by simp only [List.map_cons, List.sum_cons, hcat]; omega) hlocks
  obtain ⟨f1, f2⟩ := vx_frame hsame
  rw [hhp] at f1 f2
  have hWs : s.WarmedH U.vm := State.WarmedH.trans hW0 hW
  have hcl : s.vm.findClass cls = some ce.cls := by
    have h9 := hO.cls
    rw [hvm] at h9
    exact h9
  have hall : s.sameButNew ({ U with vm := s.vm } : State) locs mc ms := by
    subst hA
    obtain ⟨e1, e2⟩ := hsame
    rw [State.setFrames_setFrames] at e1
    have h2 : (T.setVm s.vm).sameButNew ({ U with vm := s.vm } : State) [] (0 + 1) (0 + 6) := ⟨e1, e2⟩
    have h3 := X.same.trans h2
    rw [List.append_nil] at h3
    exact h3.mono hc hs
  refine ⟨U, ?_, .threw T.heap.size, hrun, hend, Or.inr ⟨T.heap.size, rfl, cls, ce, locs, hx U hWs.alike f1 (fun q hq => f2 q hq (fun z hz => nomatch hz)), hce, hO.vm, hcl, hWs, hall, hf⟩⟩
  refine st1 _ ?_
  show Steps p.tables e below (T1.setTop { method := m, pc := pc + 3, locals := ls, stack := .ref T.heap.size :: rest, locked := none }) _
  jvm_step X₁.here [X₁.here.top, hexec, d3', Value.category]
  exact X₁.ldcString hexec (own := own) (text := text) (index := is) (a := sa) hown' hstr'.1 hstr'.2
    (g := { method := m, pc := pc + 4, locals := ls, stack := .ref T.heap.size :: .ref T.heap.size :: rest, locked := none }) rfl d4' _ hsteps
/-- 'throw new E("text")', the text by a wide index -/
theorem vx_throwSW {cc : ByteArray} {pc : Nat} (hexec : p.tables.exec = Jvm.exec) (hb : c.code = cc) (hl : l.stackTraces = false) {own cls text : String} {names : List String} {ik is ic mc ms sa : Nat} {A : Nat → Prop}
    (hown : s.vm.findClass own = some m.cls) (hcls : Bundle.fit cls = true) (hnames : ∀ n ∈ names, Bundle.fit n = true)
    (hk : (Cond.classLink own ik cls).before args s = true) (hini : (Cond.initialized cls).before args s = true) (hstr : vk_R own is text sa s) (hat : ∀ w ∈ vx_atS own ic cls names, w.before args s = true)
    (hgood : ∀ w ∈ Cond.classLink own ik cls :: Cond.initialized cls :: vx_atS own ic cls names, vx_ot w = true)
    (hU : vx_Zq Bundle.tN "UNASSIGNED_STACK" Bundle.steD A s s.heap) (hN : vx_Zq Bundle.tN "SUPPRESSED_SENTINEL" Bundle.listD A s s.heap) (hS : va_S A s.heap H locs) (hsize : ls.size = c.maxLocals)
    (d0 : decode cc pc = .ok (.new ik, 3)) (d3 : decode cc (pc + 3) = .ok (.dup, 1)) (d4 : decode cc (pc + 4) = .ok (.ldc_w is, 3)) (d7 : decode cc (pc + 7) = .ok (.invokespecial ic, 3)) (d10 : decode cc (pc + 10) = .ok (.athrow, 1))
    (hout : ∀ x ∈ c.exceptionTable.toList, covers x (pc + 10) = false)
    (hRframes : names.length + 3 < R.frames) (hRlocals : (rest.map fun v => v.category).sum + (13 * (names.length + 1) + 43) ≤ R.locals) (hRcells : cells + 1 ≤ R.cells) (hRslots : slots + 6 ≤ R.slots) (hlocks : meth.locks = false)
    (hx : ∀ t : State, s.vm.Alike t.vm → H.size ≤ t.heap.size → (∀ q : Nat, q < H.size → t.heap[q]? = H[q]?) → XC cls s t)
    (hf : ∀ z ∈ locs, free z.base) (hc : cells + 1 ≤ mc) (hs : slots + 6 ≤ ms) :
    W p l e R s m args below meth c H locs cells slots (vx_MQ below Qc XC args s mc ms free) (F0 m pc ls rest) := by
  intro T hT X
  have htr : e.platform.stackTraces = false := (show e.platform.stackTraces = l.stackTraces by rw [X.admits.platform]).trans hl
  have Y := vx_rebase X (R' := { frames := R.frames, locals := R.locals, cells := 1, slots := 6 }) (Nat.le_refl _) (Nat.le_refl _) hRcells hRslots
  obtain ⟨s', hA⟩ : ∃ z, z = (T.setVm s.vm).setFrames (.invoking m args :: below) := ⟨_, rfl⟩
  rw [← hA] at Y
  have hvm : s'.vm = s.vm := by rw [hA]; rfl
  have hhp : s'.heap = H := by rw [hA]; exact hT
  have hW0 : s.WarmedH s'.vm := by rw [hvm]; exact State.WarmedH.refl s
  have hat' : ∀ w ∈ vx_atS own ic cls names, w.before args s' = true := fun w hw => vx_ot_at hW0 hvm.symm (hgood w (List.mem_cons_of_mem _ (List.mem_cons_of_mem _ hw))) (hat w hw)
  have hk' : (Cond.classLink own ik cls).before args s' = true := vx_ot_at hW0 hvm.symm (hgood _ List.mem_cons_self) hk
  have hini' : (Cond.initialized cls).before args s' = true := vx_ot_at hW0 hvm.symm (hgood _ (List.mem_cons_of_mem _ List.mem_cons_self)) hini
  have hU' : vx_Zq Bundle.tN "UNASSIGNED_STACK" Bundle.steD A s' s'.heap := by rw [hhp]; exact vx_Zq.moved hW0.alike (hU.kept hS.2.1)
  have hN' : vx_Zq Bundle.tN "SUPPRESSED_SENTINEL" Bundle.listD A s' s'.heap := by rw [hhp]; exact vx_Zq.moved hW0.alike (hN.kept hS.2.1)
  have h : ∀ w ∈ Bundle.ownAtoms own ic cls names, w.before args s' = true := vx_own hat' (vx_isRefq hU'.1) (vx_isRefq hN'.1) hU'.2.word hN'.2.word
  have hown' : s'.vm.findClass own = some m.cls := by rw [hvm]; exact hown
  have hins : (Cond.instantiable cls 6).before args s' = true := h _ (by simp [Bundle.ownAtoms])
  obtain ⟨vm₁, cX, kX, hfX, hkX, -, -, X₁, st1⟩ := Y.newCold hexec (own := own) (C := cls) (index := ik) (n := 6) hown' hk' hins hini'
    (g := F0 m pc ls rest) rfl (by rw [hb]; exact d0) (Nat.le_refl _) (Nat.le_refl _)
  generalize hT1 : (T.setVm vm₁).pushCell { cls := cX, slots := kX.instanceTypes.map defaultValue, vm := .none } = T1 at X₁ st1
  have hcat : (Value.ref T.heap.size).category = 1 := rfl
  have hcellA : T1.heap[T.heap.size]? = some (freshCell cX kX) := by rw [← hT1]; exact State.heap_pushCell_size _ _
  have d3' : decode c.code (pc + 3) = .ok (.dup, 1) := by rw [hb]; exact d3
  have d4' : decode c.code (pc + 4) = .ok (.ldc_w is, 3) := by rw [hb]; exact d4
  have hstr' : vk_R own is text sa s' := vk_R.warm hW0 hstr
  obtain ⟨U, hsteps, hrun, hend, hW, hsame, ce, hce, hO⟩ := X₁.ctorThrowS hexec htr (own := own) (cls := cls) (names := names) (ic := ic) hown' hcls hnames h (fun x hx => nomatch hx) hfX hkX hcellA (by rw [hhp, hT]; exact Nat.le_refl _) (msg := .ref sa) rfl
    (g := { method := m, pc := pc + 7, locals := ls, stack := .ref sa :: .ref T.heap.size :: .ref T.heap.size :: rest, locked := none }) rfl hsize rfl rfl (rest := rest) rfl
    (by rw [hb]; exact d7) (by rw [hb]; exact d10) hout hRframes (by simp only [List.map_cons, List.sum_cons, hcat]; omega) hlocks
  obtain ⟨f1, f2⟩ := vx_frame hsame
  rw [hhp] at f1 f2
  have hWs : s.WarmedH U.vm := State.WarmedH.trans hW0 hW
  have hcl : s.vm.findClass cls = some ce.cls := by
    have h9 := hO.cls
    rw [hvm] at h9
    exact h9
  have hall : s.sameButNew ({ U with vm := s.vm } : State) locs mc ms := by
    subst hA
    obtain ⟨e1, e2⟩ := hsame
    rw [State.setFrames_setFrames] at e1
    have h2 : (T.setVm s.vm).sameButNew ({ U with vm := s.vm } : State) [] (0 + 1) (0 + 6) := ⟨e1, e2⟩
    have h3 := X.same.trans h2
    rw [List.append_nil] at h3
    exact h3.mono hc hs
  refine ⟨U, ?_, .threw T.heap.size, hrun, hend, Or.inr ⟨T.heap.size, rfl, cls, ce, locs, hx U hWs.alike f1 (fun q hq => f2 q hq (fun z hz => nomatch hz)), hce, hO.vm, hcl, hWs, hall, hf⟩⟩
  refine st1 _ ?_
  show Steps p.tables e below (T1.setTop { method := m, pc := pc + 3, locals := ls, stack := .ref T.heap.size :: rest, locked := none }) _
  jvm_step X₁.here [X₁.here.top, hexec, d3', Value.category]
  exact X₁.ldcStringW hexec (own := own) (text := text) (index := is) (a := sa) hown' hstr'.1 hstr'.2
    (g := { method := m, pc := pc + 4, locals := ls, stack := .ref T.heap.size :: .ref T.heap.size :: rest, locked := none }) rfl d4' _ hsteps
end Ends
section Bodies
variable {l : Launch}
theorem vx_ofW {y : MethodName} {ws ws' : List Cond} {rm : Room} {Pc : Array Value → State → Prop} {Qc : Array Value → State → Outcome → State → Prop} {XC : String → State → State → Prop} {mc ms : Nat} {free : Addr → Prop} {cc : ByteArray} {maxL : Nat} {ret : Option FieldType}
    (hy : plainName y.cls = true) (hw : ws = Cond.code y cc maxL ret :: ws')
    (body : ∀ p e s m args below meth c s₁, BodyLoose p l y (headSpec ws rm) cc maxL ret e s m args below meth c s₁ → c.maxLocals = maxL → (∀ x ∈ c.exceptionTable.toList, False) → Pc args s →
      W p l e (headSpec ws rm).room s m args below meth c s.heap [] 0 0 (vx_MQ below Qc XC args s mc ms free) (entryFrame m args maxL)) : vx_Met l y ws rm Pc Qc XC mc ms free := by
  refine MetFree.of_bodyS (code := cc) (maxLocals := maxL) (ret := ret) hy ?_ ?_
  · intro args s m h hn
    obtain ⟨meth, c, h1, h2, h3, h4, h5, h6, -, -⟩ := Cond.code_spec hn (atoms_spec (ws := ws) h _ (by rw [hw]; exact List.mem_cons_self))
    exact ⟨meth, c, h1, h2, h3, h4, h5, h6⟩
  · intro p e s m args below meth c s₁ B hml hP _
    have hh0 : s₁.heap = s.heap := by rw [B.state]; rfl
    have ht : ∀ x ∈ c.exceptionTable.toList, False := by
      obtain ⟨meth9, c9, h1, h2, -, -, -, -, h7, -⟩ := Cond.code_spec B.named (atoms_spec (ws := ws) B.pre _ (by rw [hw]; exact List.mem_cons_self))
      cases Option.some.inj (h1.symm.trans B.method)
      cases Option.some.inj (h2.symm.trans (Stand.of_body B).code)
      intro x hx
      rw [Array.isEmpty_iff.mp h7] at hx
      cases hx
    obtain ⟨t, a1, o, b1, b2, b3⟩ := body p e s m args below meth c s₁ B hml ht hP s₁ hh0 (Stand.of_body B)
    exact ⟨t, o, a1, b1, b2, b3⟩
/-- the table of a body with handlers -/
theorem vx_table {p : Program} {x y : MethodName} {S : Spec} {cc bytes : ByteArray} {maxL maxL' : Nat} {ret ret' : Option FieldType} {e : Env} {s s₁ : State} {m : MethodId} {args : Array Value} {below : List Frame} {meth : Method} {c : Code} {hh : List (Nat × Nat × Nat × Nat)}
    (B : BodyLoose p l y S cc maxL ret e s m args below meth c s₁) (h : (Cond.codeWith y bytes maxL' ret' hh).before args s = true) : c.exceptionTable.toList = tableOf hh := by
  obtain ⟨m9, meth9, c9, hn9, h1, h2, -, -, h6, -⟩ := Cond.codeWith_spec h
  cases Option.some.inj (hn9.symm.trans B.named)
  cases Option.some.inj (h1.symm.trans B.method)
  cases Option.some.inj (h2.symm.trans (Stand.of_body B).code)
  rw [← h6, table_eq]
end Bodies
end VXA
/-! ===== END ===== -/
/-! ===== BEGIN a static call of a method with an exception table ===== -/
section VXS
variable {p : Program} {l : Launch} {e : Env} {R : Room} {s : State} {m : MethodId} {args : Array Value} {below : List Frame} {meth : Method} {c : Code} {T : State} {H : Heap} {locs : List Loc} {cells slots : Nat}
abbrev vx_CSW (R : Room) (s : State) (args : Array Value) (own : String) (index : Nat) (y : MethodName) (bytes : ByteArray) (maxL : Nat) (ret : Option FieldType) (hh : List (Nat × Nat × Nat × Nat)) (ws : List Cond) (rm : Room) (mc ms n : Nat) : Prop :=
  (rm.cells = mc ∧ rm.slots = ms ∧ rm.frames + 1 ≤ R.frames ∧ 8 + (maxL + 11) + rm.locals ≤ R.locals ∧ (∀ w ∈ ws, ∀ (a' : Array Value) (U : State), s.WarmedH U.vm → w.before a' U = true) ∧ Cond.codeWith y bytes maxL ret hh ∈ ws) ∧
  (Cond.codeWith y bytes maxL ret hh).before args s = true ∧ (Cond.initialized y.cls).before args s = true ∧ (y.cls ≠ "java/lang/invoke/MethodHandle" ∧ y.cls ≠ "java/lang/invoke/VarHandle") ∧
  (∀ sig, parseMethodDescriptor y.desc = some sig → n = sig.parameters.length) ∧ (Cond.methodLink own index y).before args s = true ∧ (Cond.static y).before args s = true
theorem vx_cwSW {own : String} {index maxL mc ms : Nat} {y : MethodName} {bytes : ByteArray} {ret : Option FieldType} {hh : List (Nat × Nat × Nat × Nat)} {Ts ws ws' : List Cond} {rm : Room} (n : Nat) (ht : ∀ w ∈ Ts, w.before args s = true) (hT : GoodIn Ts (va_wsS own index y ws)) (hw : ws = Cond.codeWith y bytes maxL ret hh :: ws') (hrc : rm.cells = mc) (hrs : rm.slots = ms)
    (hd : y.cls ≠ "java/lang/invoke/MethodHandle" ∧ y.cls ≠ "java/lang/invoke/VarHandle" ∧ (parseMethodDescriptor y.desc).map (fun d => d.parameters.length) = some n) (hR : rm.frames + 1 ≤ R.frames ∧ 8 + (maxL + 11) + rm.locals ≤ R.locals) :
    vx_CSW R s args own index y bytes maxL ret hh ws rm mc ms n := by
  have ok : ∀ w ∈ va_wsS own index y ws, w.before args s = true := fun w h => ht w (hT w h).1
  have hG : GoodIn Ts ws := fun w h => hT w (by unfold va_wsS; exact List.mem_append_right _ h)
  have hc : Cond.codeWith y bytes maxL ret hh ∈ ws := by rw [hw]; exact List.mem_cons_self
  refine ⟨⟨hrc, hrs, hR.1, hR.2, pay_in ht hG, hc⟩, ht _ (hG _ hc).1, ok _ (by simp [va_wsS]), ⟨hd.1, hd.2.1⟩, fun sig h => ?_, ok _ (by simp [va_wsS]), ok _ (by simp [va_wsS])⟩
  have h2 := hd.2.2
  rw [h] at h2
  exact (Option.some.inj h2).symm
theorem vx_callSW (X : Stand p l e R s m args below meth c T locs cells slots) (hexec : p.tables.exec = Jvm.exec) {own : String} {index : Nat} {y : MethodName} {bytes : ByteArray} {maxL : Nat} {ret : Option FieldType} {hh : List (Nat × Nat × Nat × Nat)}
    (hown : s.vm.findClass own = some m.cls) (hlink : (Cond.methodLink own index y).before args s = true) (hstat : (Cond.static y).before args s = true) (hinit : (Cond.initialized y.cls).before args s = true)
    (hcode : (Cond.codeWith y bytes maxL ret hh).before args s = true) (hy : y.cls ≠ "java/lang/invoke/MethodHandle" ∧ y.cls ≠ "java/lang/invoke/VarHandle")
    {W9 : Nat} {Pre : Pt → Array Value → Prop} {Post : Pt → Array Value → Option Value → Pt → Prop} (hK : Back l R p e below s args y 3 W9 Pre Post)
    {g : JFrame} (hg : g.method = m) (hsize : g.locals.size = c.maxLocals) {argsL rest : List Value} (hlen : ∀ sig, parseMethodDescriptor y.desc = some sig → argsL.length = sig.parameters.length)
    (hstack : g.stack = argsL.reverse ++ rest) (hW : 2 * g.monitorRoom + (rest.map fun v => v.category).sum ≤ W9) (hdg : decode c.code g.pc = .ok (.invokestatic index, 3))
    (hpre : ∀ vm₁, s.WarmedH vm₁ → Pre ⟨T.setVm vm₁, locs, cells, slots⟩ argsL.toArray) :
    ∃ (v : Option Value) (vm₁ : Vm) (B : Pt), s.WarmedH vm₁ ∧ Stand p l e R s m args below meth c B.U B.locs B.cells B.slots ∧ Post ⟨T.setVm vm₁, locs, cells, slots⟩ argsL.toArray v B ∧
      ∀ target, Steps p.tables e below (B.U.setTop { g with pc := g.pc + 3, stack := v.toList ++ rest }) target → Steps p.tables e below (T.setTop g) target := by
  obtain ⟨mk, methM, cM, hnamed, hmethM, -, -, -, -, -, -, hsigM⟩ := Cond.codeWith_spec hcode
  have hstatic : methM.isStatic = true := Cond.static_spec hnamed hmethM hstat
  obtain ⟨kP, hkP, -⟩ := className_of_methodNamed hnamed
  have hinitP : kP.init = .initialized := Cond.initialized_spec (findClass_of_methodNamed hnamed) hkP hinit
  obtain ⟨vm₁, X₁, hstep₁⟩ := X.invokestatic hexec hown hlink hnamed hmethM hstatic hkP hinitP hy (g := g) hg (argsL := argsL) (rest := rest) (hlen _ hsigM) hstack hdg
  obtain ⟨v, B, X', hpost, hsteps⟩ := hK m meth c ⟨T.setVm vm₁, locs, cells, slots⟩ { g with stack := rest } (.invokestatic index) mk argsL.toArray X₁ hg hsize hdg hW (X₁.named hnamed) (hpre vm₁ X₁.warmed)
  exact ⟨v, vm₁, B, X₁.warmed, X', hpost, fun target h => hstep₁ _ fun acts => by rw [doInvoke_state]; exact hsteps.trans h⟩
theorem vx_runSW {y : MethodName} {bytes cc : ByteArray} {maxL nL mc ms n index : Nat} {ret : Option FieldType} {hh : List (Nat × Nat × Nat × Nat)} {ws : List Cond} {rm : Room} {Pc : Array Value → State → Prop} {Qc : Array Value → State → Outcome → State → Prop} {free : Addr → Prop} {Ts : List Cond} {own : String} {As rest : List Value} {g : JFrame}
    (S : CallFix p m c cc nL s args Ts own) (hM : Met l y ws rm Pc Qc mc ms free) (cw : vx_CSW R s args own index y bytes maxL ret hh ws rm mc ms n) (hp : PreS s H Pc As)
    (hg : g.method = m) (hn : As.length = n) (hsize : g.locals.size = nL) (hstack : g.stack = As.reverse ++ rest) (hW : 2 * g.monitorRoom + (rest.map fun v => v.category).sum ≤ 8) (hdg : decode cc g.pc = .ok (.invokestatic index, 3)) (hf : cells + mc ≤ R.cells ∧ slots + ms ≤ R.slots) :
    va_Run p l e R s m args below meth c H locs cells slots mc ms g rest (Qc As.toArray) (free) := by
  obtain ⟨⟨hrc, hrs, hfr, hlo, hws, hcw⟩, hcode, hini, hy, hlen, hl, hstt⟩ := cw
  have hK : Back l R p e below s args y 3 8 (PreOf R mc ms Pc) (PostOf Qc mc ms free) := va_backW (hh := hh) (bytes := bytes) (maxL := maxL) (ret := ret) hM hp.1 hrc hrs hfr hlo hws hcw (fun a' U hW => word_at hW (Or.inl (by first | rfl | simp [Cond.onTables, Cond.keeps, Cond.steady])) hini)
  obtain ⟨hx, hb, hml, ho, -⟩ := S
  intro T hT X
  obtain ⟨v, vm₁, ⟨U', l2, c2, s2⟩, hW₁, X', ⟨g', mk, t, L, e1, e2, hq, h1, hL, h2, h3⟩, st⟩ := vx_callSW X hx (hh := hh) (bytes := bytes) (maxL := maxL) (ret := ret) ho hl hstt hini hcode hy hK hg (hsize.trans hml.symm) (argsL := As) (rest := rest) (fun sig h => hn.trans (hlen sig h)) hstack hW (by rw [hb]; exact hdg)
    (fun vm₁ hW₁ => ⟨hf.1, hf.2, hp.2 (T.setVm vm₁) hT hW₁⟩)
  dsimp only [Pt.U, Pt.locs, Pt.cells, Pt.slots] at X' e1 e2 h1 h2 h3 st
  subst h1; subst h2; subst h3
  exact ⟨v, (T.setVm vm₁).calling g' mk As.toArray, t, U', L, hT, X', hL, e1, e2, hq, st⟩
theorem vx_lt {D : va_G} {cl : List vw_C} {ws : va_W} {H1 : Heap} (h : va_P D cl ws H1) {k : Nat} {q : Nat × va_E} (hk : ws[k]? = some q) : q.1 < H1.size := (h k q hk).lt
end VXS
/-! ===== END ===== -/
/-! ===== BEGIN methods with a table of their own: called by a name, returning or throwing ===== -/
section VXH
/-! vx_backW, vx_callVX, vx_callSX, vx_callVW, vx_runVW, vx_runVX, vx_runSX, vx_ofWH follow the same proofs as their sisters above (Free/Laws.lean, Shelf42/LK1.lean); vx_outP calls Shelf42/NT130.lean (outThrough). -/
section
variable {l : Launch} {R : Room} {p : Program} {e : Env} {below : List Frame} {s : State} {sargs : Array Value} {y : MethodName} {len W9 : Nat}
theorem vx_backW {ws : List Cond} {rm : Room} {Pc : Array Value → State → Prop} {Qc : Array Value → State → Outcome → State → Prop} {XC : String → State → State → Prop} {mc ms : Nat} {free : Addr → Prop} {bytes : ByteArray} {maxL : Nat} {ret : Option FieldType} {hh : List (Nat × Nat × Nat × Nat)}
    (hM : vx_Met l y ws rm Pc Qc XC mc ms free) (hblind : FrameBlind Pc) (hrc : rm.cells = mc) (hrs : rm.slots = ms)
    (hframes : rm.frames + 1 ≤ R.frames) (hlocals : W9 + (maxL + 11) + rm.locals ≤ R.locals)
    (hws : ∀ w ∈ ws, ∀ a' U, s.WarmedH U.vm → w.before a' U = true) (hcode : Cond.codeWith y bytes maxL ret hh ∈ ws) (hinit : ∀ a' U, s.WarmedH U.vm → (Cond.initialized y.cls).before a' U = true) :
    vx_Back l R p e below s sargs y len W9 (PreOf R mc ms Pc) (PostOf Qc mc ms free) (vx_Post XC mc ms free) := by
  intro m meth c A g ig mk a X hg hsize hdg hW hn hp
  have h1 : (headSpec ws rm).pre.before a A.U = true := atoms_intro fun w hw => hws w hw _ _ X.warmed
  have h2 : (Cond.codeWith y bytes maxL ret hh).before a A.U = true := hws _ hcode _ _ X.warmed
  have h3 : (Cond.initialized y.cls).before a A.U = true := hinit _ _ X.warmed
  have h4 : A.cells + (headSpec ws rm).room.cells ≤ R.cells := by rw [show (headSpec ws rm).room.cells = mc from hrc]; exact hp.1
  have h5 : A.slots + (headSpec ws rm).room.slots ≤ R.slots := by rw [show (headSpec ws rm).room.slots = ms from hrs]; exact hp.2.1
  have hPc : Pc a (A.U.calling g mk a) := hblind _ _ _ _ hp.2.2
  obtain ⟨U, Ls, c0, s0⟩ := A
  dsimp only [Pt.U, Pt.locs, Pt.cells, Pt.slots] at h1 h2 h3 h4 h5 X hn hPc ⊢
  obtain ⟨m9, methY, cY, hn9, hmY, hcY, -, hlY, -⟩ := Cond.codeWith_spec h2
  cases Option.some.inj (hn9.symm.trans hn)
  obtain ⟨kY, hkY, -⟩ := className_of_methodNamed hn
  have hinitY : kY.init = .initialized := Cond.initialized_spec (findClass_of_methodNamed hn) hkY h3
  have h : At U g.method c below := by rw [hg]; exact X.here
  have hlocals9 : W9 + (maxL + 11) + (headSpec ws rm).room.locals ≤ R.locals := hlocals
  have happ : (headSpec ws rm).appliesLoose y e.platform (U.calling g mk a) = true :=
    Spec.appliesLoose_calling (g := g) h hdg hn hkY hinitY
      (X.room_calling (g := g) (R' := (headSpec ws rm).room) hsize hmY hcY hframes (by rw [hlY]; omega) h4 h5) h1
  obtain ⟨mid, hmid⟩ := h.above
  have hfr : (U.setTop g).frames = (.java g :: mid) ++ below := by rw [State.frames_setTop' g h.top, hmid]; rfl
  obtain ⟨o, s₂, hsteps, -, hend, hq⟩ := Steps.callFree hM p X.admits X.cas X.clock (acts := []) hfr happ hPc trivial
  have hq' : vx_Q Qc XC mc ms free a (U.calling g mk a) o s₂ := hq
  rw [State.frames_setTop' g h.top] at hend
  obtain ⟨g₀, hg0⟩ := Option.isSome_iff_exists.mp h.top
  obtain ⟨r, hr⟩ := State.topJava?_eq_some.mp hg0
  have hr' : (({ U with heap := s₂.heap, slotsUsed := s₂.slotsUsed } : State).setVm s₂.vm).frames = .java g₀ :: r := hr
  rcases hq' with ⟨hqc, L, hfe, hL⟩ | ⟨q, rfl, E, ce, L, hx, hce, hcv, hcl, hW₂, hsm, hL⟩
  · obtain ⟨⟨v, rfl⟩, hW₂, e2, q2, q3, q4, q5, q6⟩ := id hfe
    have e3 : s₂ = ({ (U.calling g mk a).setFrames s₂.frames with heap := s₂.heap, slotsUsed := s₂.slotsUsed } : State).setVm s₂.vm := by
      have : s₂ = ({ s₂ with vm := (U.calling g mk a).vm } : State).setVm s₂.vm := rfl
      rw [e2] at this
      exact this
    obtain ⟨c₂, i₂, len₂, hc₂, hd₂, hf₂⟩ := hend
    have hW' : U.WarmedH s₂.vm := hW₂
    have hcc : c₂ = c := by
      have h1 : s₂.code? g.method = U.code? g.method := by
        rw [State.code?_eq, State.code?_eq, hW'.alike.method?]
      exact Option.some.inj (hc₂.symm.trans (h1.trans h.code))
    subst hcc
    have hlen : len₂ = len := by rw [hdg] at hd₂; cases hd₂; rfl
    subst hlen
    have hs₂ : s₂ = (({ U with heap := s₂.heap, slotsUsed := s₂.slotsUsed } : State).setVm s₂.vm).setTop { g with pc := g.pc + len₂, stack := v.toList ++ g.stack } := by
      refine e3.trans ?_
      rw [hf₂, State.calling_eq h.top, State.setFrames_setFrames, State.setTop_of_frames _ hr', hr]
      rfl
    have hsame : U.sameButNew ({ U with heap := s₂.heap, slotsUsed := s₂.slotsUsed } : State) L mc ms := by
      refine ⟨?_, q2, q3, q4, q5, q6⟩
      obtain ⟨t, ht, -⟩ := State.frames_cons hr
      show ({ U with heap := s₂.heap, slotsUsed := s₂.slotsUsed } : State) = { U.setFrames U.frames with heap := s₂.heap, slotsUsed := s₂.slotsUsed }
      rw [State.setFrames_self ht]
    subst hg
    refine Or.inl ⟨v, ⟨(({ U with heap := s₂.heap, slotsUsed := s₂.slotsUsed } : State).setVm s₂.vm), Ls ++ L, c0 + mc, s0 + ms⟩,
      ⟨X.admits, X.cas, X.clock, X.frames, X.room, X.hears, X.method, X.code, (X.here.setHeapUsed s₂.heap s₂.slotsUsed).setVm hW'.alike, X.tail, State.WarmedH.trans X.warmed hW', X.limits, X.bytes, X.same.trans (hsame.setVm s.vm)⟩,
      ⟨g, mk, s₂, L, rfl, rfl, hqc, rfl, hL, rfl, rfl⟩, ?_⟩
    show Steps p.tables e below _ ((({ U with heap := s₂.heap, slotsUsed := s₂.slotsUsed } : State).setVm s₂.vm).setTop { g with pc := g.pc + len₂, stack := v.toList ++ g.stack })
    rw [← hs₂]
    exact hsteps
  · obtain ⟨e2, q2, q3, q4, q5, q6⟩ := id hsm
    have e3 : s₂ = ({ (U.calling g mk a).setFrames s₂.frames with heap := s₂.heap, slotsUsed := s₂.slotsUsed } : State).setVm s₂.vm := by
      have : s₂ = ({ s₂ with vm := (U.calling g mk a).vm } : State).setVm s₂.vm := rfl
      rw [e2] at this
      exact this
    have hf₂ : s₂.frames = .throwing q :: .java g :: U.frames.tail := hend
    have hW' : U.WarmedH s₂.vm := hW₂
    have hs₂ : s₂ = ((({ U with heap := s₂.heap, slotsUsed := s₂.slotsUsed } : State).setVm s₂.vm).setTop g).pushFrame (.throwing q) := by
      refine e3.trans ?_
      rw [hf₂, State.calling_eq h.top, State.setFrames_setFrames, State.pushFrame, State.frames_setTop _ hr', State.setTop_of_frames _ hr', State.setFrames_setFrames, hr]
      rfl
    have hsame : U.sameButNew ({ U with heap := s₂.heap, slotsUsed := s₂.slotsUsed } : State) L mc ms := by
      refine ⟨?_, q2, q3, q4, q5, q6⟩
      obtain ⟨t, ht, -⟩ := State.frames_cons hr
      show ({ U with heap := s₂.heap, slotsUsed := s₂.slotsUsed } : State) = { U.setFrames U.frames with heap := s₂.heap, slotsUsed := s₂.slotsUsed }
      rw [State.setFrames_self ht]
    subst hg
    refine Or.inr ⟨q, ⟨(({ U with heap := s₂.heap, slotsUsed := s₂.slotsUsed } : State).setVm s₂.vm), Ls ++ L, c0 + mc, s0 + ms⟩,
      ⟨X.admits, X.cas, X.clock, X.frames, X.room, X.hears, X.method, X.code, (X.here.setHeapUsed s₂.heap s₂.slotsUsed).setVm hW'.alike, X.tail, State.WarmedH.trans X.warmed hW', X.limits, X.bytes, X.same.trans (hsame.setVm s.vm)⟩,
      ⟨g, mk, s₂, L, E, ce, rfl, rfl, hx, hce, hcv, hcl, rfl, hL, rfl, rfl⟩, ?_⟩
    show Steps p.tables e below _ (((({ U with heap := s₂.heap, slotsUsed := s₂.slotsUsed } : State).setVm s₂.vm).setTop g).pushFrame (.throwing q))
    rw [← hs₂]
    exact hsteps
end
variable {p : Program} {l : Launch} {e : Env} {R : Room} {s : State} {m : MethodId} {args : Array Value} {below : List Frame} {meth : Method} {c : Code} {T : State} {H : Heap} {locs : List Loc} {cells slots : Nat}
theorem vx_callVX (X : Stand p l e R s m args below meth c T locs cells slots) (hexec : p.tables.exec = Jvm.exec) {own C : String} {index : Nat} {y : MethodName} {bytes : ByteArray} {maxL : Nat} {ret : Option FieldType} {hh : List (Nat × Nat × Nat × Nat)}
    (hown : s.vm.findClass own = some m.cls) (hlink : (Cond.methodLink own index y).before args s = true) (hinst : (Cond.instanceMethod y).before args s = true) (hsel : (Cond.selects C y y).before args s = true)
    (hcode : (Cond.codeWith y bytes maxL ret hh).before args s = true) (hy : y.cls ≠ "java/lang/invoke/MethodHandle" ∧ y.cls ≠ "java/lang/invoke/VarHandle")
    {W9 : Nat} {Pre : Pt → Array Value → Prop} {Post : Pt → Array Value → Option Value → Pt → Prop} {PostX : Pt → Array Value → Addr → Pt → Prop} (hK : vx_Back l R p e below s args y 3 W9 Pre Post PostX)
    {b : Addr} {cellB : Cell} (hcell : T.heap[b]? = some cellB) (hobj : cellB.vm.isStatics = false) (hcls : s.vm.findClass C = some cellB.cls)
    {g : JFrame} (hg : g.method = m) (hsize : g.locals.size = c.maxLocals) {argsL rest : List Value} (hlen : ∀ sig, parseMethodDescriptor y.desc = some sig → argsL.length = sig.parameters.length)
    (hstack : g.stack = argsL.reverse ++ .ref b :: rest) (hW : 2 * g.monitorRoom + (rest.map fun v => v.category).sum ≤ W9) (hdg : decode c.code g.pc = .ok (.invokevirtual index, 3))
    (hpre : ∀ vm₁, s.WarmedH vm₁ → Pre ⟨T.setVm vm₁, locs, cells, slots⟩ (Value.ref b :: argsL).toArray) :
    (∃ (v : Option Value) (vm₁ : Vm) (B : Pt), s.WarmedH vm₁ ∧ Stand p l e R s m args below meth c B.U B.locs B.cells B.slots ∧ Post ⟨T.setVm vm₁, locs, cells, slots⟩ (Value.ref b :: argsL).toArray v B ∧
      ∀ target, Steps p.tables e below (B.U.setTop { g with pc := g.pc + 3, stack := v.toList ++ rest }) target → Steps p.tables e below (T.setTop g) target) ∨
    (∃ (q : Addr) (vm₁ : Vm) (B : Pt), s.WarmedH vm₁ ∧ Stand p l e R s m args below meth c B.U B.locs B.cells B.slots ∧ PostX ⟨T.setVm vm₁, locs, cells, slots⟩ (Value.ref b :: argsL).toArray q B ∧
      Steps p.tables e below (T.setTop g) ((B.U.setTop { g with stack := rest }).pushFrame (.throwing q))) := by
  obtain ⟨mk, methM, hnamed, hmethM, hstM, habM⟩ := Cond.instanceMethod_spec hinst
  obtain ⟨m8, methM', cM, hn8, hmethM', -, -, -, -, -, -, hsigM⟩ := Cond.codeWith_spec hcode
  cases Option.some.inj (hn8.symm.trans hnamed)
  cases hmethM.symm.trans hmethM'
  obtain ⟨c2, r2, m2, q1, q2, q3, q4, kP, hkP, hkPi⟩ := Cond.selects_spec hsel
  cases hcls.symm.trans q1
  cases (State.methodFound?_of_named hnamed hy).symm.trans q2
  cases hnamed.symm.trans q3
  have hselP : selectMethod e.platform s.vm cellB.cls mk = .method mk := by rw [Launch.admits_selectMethod X.admits]; exact q4
  obtain ⟨vm₁, X₁, hstep₁⟩ := X.invokevirtual hexec hown hlink hnamed hmethM hstM hkP hkPi hy (a := b) (cell := cellB) hcell
    (fun z h => by rw [h] at hobj; cases hobj) hselP hmethM habM hkP hkPi (g := g) hg (argsL := argsL) (rest := rest) (hlen _ hsigM) hstack hdg
  rcases hK m meth c ⟨T.setVm vm₁, locs, cells, slots⟩ { g with stack := rest } (.invokevirtual index) mk (Value.ref b :: argsL).toArray X₁ hg hsize hdg hW (X₁.named hnamed) (hpre vm₁ X₁.warmed) with ⟨v, B, X', hpost, hsteps⟩ | ⟨q, B, X', hpost, hsteps⟩
  · exact Or.inl ⟨v, vm₁, B, X₁.warmed, X', hpost, fun target h => hstep₁ _ fun acts => by rw [doInvoke_state]; exact hsteps.trans h⟩
  · exact Or.inr ⟨q, vm₁, B, X₁.warmed, X', hpost, hstep₁ _ fun acts => by rw [doInvoke_state]; exact hsteps⟩
theorem vx_callSX (X : Stand p l e R s m args below meth c T locs cells slots) (hexec : p.tables.exec = Jvm.exec) {own : String} {index : Nat} {y : MethodName} {bytes : ByteArray} {maxL : Nat} {ret : Option FieldType} {hh : List (Nat × Nat × Nat × Nat)}
    (hown : s.vm.findClass own = some m.cls) (hlink : (Cond.methodLink own index y).before args s = true) (hstat : (Cond.static y).before args s = true) (hinit : (Cond.initialized y.cls).before args s = true)
    (hcode : (Cond.codeWith y bytes maxL ret hh).before args s = true) (hy : y.cls ≠ "java/lang/invoke/MethodHandle" ∧ y.cls ≠ "java/lang/invoke/VarHandle")
    {W9 : Nat} {Pre : Pt → Array Value → Prop} {Post : Pt → Array Value → Option Value → Pt → Prop} {PostX : Pt → Array Value → Addr → Pt → Prop} (hK : vx_Back l R p e below s args y 3 W9 Pre Post PostX)
    {g : JFrame} (hg : g.method = m) (hsize : g.locals.size = c.maxLocals) {argsL rest : List Value} (hlen : ∀ sig, parseMethodDescriptor y.desc = some sig → argsL.length = sig.parameters.length)
    (hstack : g.stack = argsL.reverse ++ rest) (hW : 2 * g.monitorRoom + (rest.map fun v => v.category).sum ≤ W9) (hdg : decode c.code g.pc = .ok (.invokestatic index, 3))
    (hpre : ∀ vm₁, s.WarmedH vm₁ → Pre ⟨T.setVm vm₁, locs, cells, slots⟩ argsL.toArray) :
    (∃ (v : Option Value) (vm₁ : Vm) (B : Pt), s.WarmedH vm₁ ∧ Stand p l e R s m args below meth c B.U B.locs B.cells B.slots ∧ Post ⟨T.setVm vm₁, locs, cells, slots⟩ argsL.toArray v B ∧
      ∀ target, Steps p.tables e below (B.U.setTop { g with pc := g.pc + 3, stack := v.toList ++ rest }) target → Steps p.tables e below (T.setTop g) target) ∨
    (∃ (q : Addr) (vm₁ : Vm) (B : Pt), s.WarmedH vm₁ ∧ Stand p l e R s m args below meth c B.U B.locs B.cells B.slots ∧ PostX ⟨T.setVm vm₁, locs, cells, slots⟩ argsL.toArray q B ∧
      Steps p.tables e below (T.setTop g) ((B.U.setTop { g with stack := rest }).pushFrame (.throwing q))) := by
  obtain ⟨mk, methM, cM, hnamed, hmethM, -, -, -, -, -, -, hsigM⟩ := Cond.codeWith_spec hcode
  have hstatic : methM.isStatic = true := Cond.static_spec hnamed hmethM hstat
  obtain ⟨kP, hkP, -⟩ := className_of_methodNamed hnamed
  have hinitP : kP.init = .initialized := Cond.initialized_spec (findClass_of_methodNamed hnamed) hkP hinit
  obtain ⟨vm₁, X₁, hstep₁⟩ := X.invokestatic hexec hown hlink hnamed hmethM hstatic hkP hinitP hy (g := g) hg (argsL := argsL) (rest := rest) (hlen _ hsigM) hstack hdg
  rcases hK m meth c ⟨T.setVm vm₁, locs, cells, slots⟩ { g with stack := rest } (.invokestatic index) mk argsL.toArray X₁ hg hsize hdg hW (X₁.named hnamed) (hpre vm₁ X₁.warmed) with ⟨v, B, X', hpost, hsteps⟩ | ⟨q, B, X', hpost, hsteps⟩
  · exact Or.inl ⟨v, vm₁, B, X₁.warmed, X', hpost, fun target h => hstep₁ _ fun acts => by rw [doInvoke_state]; exact hsteps.trans h⟩
  · exact Or.inr ⟨q, vm₁, B, X₁.warmed, X', hpost, hstep₁ _ fun acts => by rw [doInvoke_state]; exact hsteps⟩
theorem vx_callVW (X : Stand p l e R s m args below meth c T locs cells slots) (hexec : p.tables.exec = Jvm.exec) {own C : String} {index : Nat} {y : MethodName} {bytes : ByteArray} {maxL : Nat} {ret : Option FieldType} {hh : List (Nat × Nat × Nat × Nat)}
    (hown : s.vm.findClass own = some m.cls) (hlink : (Cond.methodLink own index y).before args s = true) (hinst : (Cond.instanceMethod y).before args s = true) (hsel : (Cond.selects C y y).before args s = true)
    (hcode : (Cond.codeWith y bytes maxL ret hh).before args s = true) (hy : y.cls ≠ "java/lang/invoke/MethodHandle" ∧ y.cls ≠ "java/lang/invoke/VarHandle")
    {W9 : Nat} {Pre : Pt → Array Value → Prop} {Post : Pt → Array Value → Option Value → Pt → Prop} (hK : Back l R p e below s args y 3 W9 Pre Post)
    {b : Addr} {cellB : Cell} (hcell : T.heap[b]? = some cellB) (hobj : cellB.vm.isStatics = false) (hcls : s.vm.findClass C = some cellB.cls)
    {g : JFrame} (hg : g.method = m) (hsize : g.locals.size = c.maxLocals) {argsL rest : List Value} (hlen : ∀ sig, parseMethodDescriptor y.desc = some sig → argsL.length = sig.parameters.length)
    (hstack : g.stack = argsL.reverse ++ .ref b :: rest) (hW : 2 * g.monitorRoom + (rest.map fun v => v.category).sum ≤ W9) (hdg : decode c.code g.pc = .ok (.invokevirtual index, 3))
    (hpre : ∀ vm₁, s.WarmedH vm₁ → Pre ⟨T.setVm vm₁, locs, cells, slots⟩ (Value.ref b :: argsL).toArray) :
    ∃ (v : Option Value) (vm₁ : Vm) (B : Pt), s.WarmedH vm₁ ∧ Stand p l e R s m args below meth c B.U B.locs B.cells B.slots ∧ Post ⟨T.setVm vm₁, locs, cells, slots⟩ (Value.ref b :: argsL).toArray v B ∧
      ∀ target, Steps p.tables e below (B.U.setTop { g with pc := g.pc + 3, stack := v.toList ++ rest }) target → Steps p.tables e below (T.setTop g) target := by
  obtain ⟨mk, methM, hnamed, hmethM, hstM, habM⟩ := Cond.instanceMethod_spec hinst
  obtain ⟨m8, methM', cM, hn8, hmethM', -, -, -, -, -, -, hsigM⟩ := Cond.codeWith_spec hcode
  cases Option.some.inj (hn8.symm.trans hnamed)
  cases hmethM.symm.trans hmethM'
  obtain ⟨c2, r2, m2, q1, q2, q3, q4, kP, hkP, hkPi⟩ := Cond.selects_spec hsel
  cases hcls.symm.trans q1
  cases (State.methodFound?_of_named hnamed hy).symm.trans q2
  cases hnamed.symm.trans q3
  have hselP : selectMethod e.platform s.vm cellB.cls mk = .method mk := by rw [Launch.admits_selectMethod X.admits]; exact q4
  obtain ⟨vm₁, X₁, hstep₁⟩ := X.invokevirtual hexec hown hlink hnamed hmethM hstM hkP hkPi hy (a := b) (cell := cellB) hcell
    (fun z h => by rw [h] at hobj; cases hobj) hselP hmethM habM hkP hkPi (g := g) hg (argsL := argsL) (rest := rest) (hlen _ hsigM) hstack hdg
  obtain ⟨v, B, X', hpost, hsteps⟩ := hK m meth c ⟨T.setVm vm₁, locs, cells, slots⟩ { g with stack := rest } (.invokevirtual index) mk (Value.ref b :: argsL).toArray X₁ hg hsize hdg hW (X₁.named hnamed) (hpre vm₁ X₁.warmed)
  exact ⟨v, vm₁, B, X₁.warmed, X', hpost, fun target h => hstep₁ _ fun acts => by rw [doInvoke_state]; exact hsteps.trans h⟩
abbrev vx_CVW (R : Room) (s : State) (args : Array Value) (own C : String) (index : Nat) (y : MethodName) (bytes : ByteArray) (maxL : Nat) (ret : Option FieldType) (hh : List (Nat × Nat × Nat × Nat)) (ws : List Cond) (rm : Room) (mc ms n : Nat) : Prop :=
  (rm.cells = mc ∧ rm.slots = ms ∧ rm.frames + 1 ≤ R.frames ∧ 8 + (maxL + 11) + rm.locals ≤ R.locals ∧ (∀ w ∈ ws, ∀ (a' : Array Value) (U : State), s.WarmedH U.vm → w.before a' U = true) ∧ Cond.codeWith y bytes maxL ret hh ∈ ws) ∧
  (Cond.codeWith y bytes maxL ret hh).before args s = true ∧ (Cond.initialized y.cls).before args s = true ∧ (y.cls ≠ "java/lang/invoke/MethodHandle" ∧ y.cls ≠ "java/lang/invoke/VarHandle") ∧
  (∀ sig, parseMethodDescriptor y.desc = some sig → n = sig.parameters.length) ∧ (Cond.methodLink own index y).before args s = true ∧ (Cond.instanceMethod y).before args s = true ∧ (Cond.selects C y y).before args s = true
theorem vx_cwVW {own C : String} {index maxL mc ms : Nat} {y : MethodName} {bytes : ByteArray} {ret : Option FieldType} {hh : List (Nat × Nat × Nat × Nat)} {Ts ws ws' : List Cond} {rm : Room} (n : Nat) (ht : ∀ w ∈ Ts, w.before args s = true) (hT : GoodIn Ts (wsV own index C y ws)) (hw : ws = Cond.codeWith y bytes maxL ret hh :: ws') (hrc : rm.cells = mc) (hrs : rm.slots = ms)
    (hd : y.cls = C ∧ y.cls ≠ "java/lang/invoke/MethodHandle" ∧ y.cls ≠ "java/lang/invoke/VarHandle" ∧ (parseMethodDescriptor y.desc).map (fun d => d.parameters.length) = some n) (hR : rm.frames + 1 ≤ R.frames ∧ 8 + (maxL + 11) + rm.locals ≤ R.locals) :
    vx_CVW R s args own C index y bytes maxL ret hh ws rm mc ms n := by
  obtain ⟨hC, hd⟩ := hd
  subst hC
  have ok : ∀ w ∈ wsV own index y.cls y ws, w.before args s = true := fun w h => ht w (hT w h).1
  have hG : GoodIn Ts ws := fun w h => hT w (by unfold wsV; exact List.mem_append_right _ h)
  have hc : Cond.codeWith y bytes maxL ret hh ∈ ws := by rw [hw]; exact List.mem_cons_self
  refine ⟨⟨hrc, hrs, hR.1, hR.2, pay_in ht hG, hc⟩, ht _ (hG _ hc).1, ok _ (by simp [wsV]), ⟨hd.1, hd.2.1⟩, fun sig h => ?_, ok _ (by simp [wsV]), ok _ (by simp [wsV]), ok _ (by simp [wsV])⟩
  have h2 := hd.2.2
  rw [h] at h2
  exact (Option.some.inj h2).symm
theorem vx_runVW {y : MethodName} {bytes cc : ByteArray} {maxL nL mc ms n index : Nat} {ret : Option FieldType} {hh : List (Nat × Nat × Nat × Nat)} {ws : List Cond} {rm : Room} {Pc : Array Value → State → Prop} {Qc : Array Value → State → Outcome → State → Prop} {free : Addr → Prop} {Ts : List Cond} {own C : String} {b : Addr} {As rest : List Value} {g : JFrame}
    (S : CallFix p m c cc nL s args Ts own) (hM : Met l y ws rm Pc Qc mc ms free) (cw : vx_CVW R s args own C index y bytes maxL ret hh ws rm mc ms n) (hp : PreV s H C b Pc As)
    (hg : g.method = m) (hn : As.length = n) (hsize : g.locals.size = nL) (hstack : g.stack = As.reverse ++ .ref b :: rest) (hW : 2 * g.monitorRoom + (rest.map fun v => v.category).sum ≤ 8) (hdg : decode cc g.pc = .ok (.invokevirtual index, 3)) (hf : cells + mc ≤ R.cells ∧ slots + ms ≤ R.slots) :
    va_Run p l e R s m args below meth c H locs cells slots mc ms g rest (Qc (Value.ref b :: As).toArray) free := by
  obtain ⟨⟨hrc, hrs, hfr, hlo, hws, hcw⟩, hcode, hini, hy, hlen, hl, hin, hse⟩ := cw
  have hK : Back l R p e below s args y 3 8 (PreOf R mc ms Pc) (PostOf Qc mc ms free) := va_backW (hh := hh) (bytes := bytes) (maxL := maxL) (ret := ret) hM hp.1 hrc hrs hfr hlo hws hcw (fun a' U hW => word_at hW (Or.inl (by first | rfl | simp [Cond.onTables, Cond.keeps, Cond.steady])) hini)
  obtain ⟨hx, hb, hml, ho, -⟩ := S
  obtain ⟨-, ⟨cellB, hcB, hoB, hclB⟩, hPc⟩ := hp
  intro T hT X
  obtain ⟨v, vm₁, ⟨U', l2, c2, s2⟩, hW₁, X', ⟨g', mk, t, L, e1, e2, hq, h1, hL, h2, h3⟩, st⟩ := vx_callVW X hx (C := C) (hh := hh) (bytes := bytes) (maxL := maxL) (ret := ret) ho hl hin hse hcode hy hK (by rw [hT]; exact hcB) hoB hclB hg (hsize.trans hml.symm) (argsL := As) (rest := rest) (fun sig h => hn.trans (hlen sig h)) hstack hW (by rw [hb]; exact hdg)
    (fun vm₁ hW₁ => ⟨hf.1, hf.2, hPc (T.setVm vm₁) hT hW₁⟩)
  dsimp only [Pt.U, Pt.locs, Pt.cells, Pt.slots] at X' e1 e2 h1 h2 h3 st
  subst h1; subst h2; subst h3
  exact ⟨v, (T.setVm vm₁).calling g' mk (Value.ref b :: As).toArray, t, U', L, hT, X', hL, e1, e2, hq, st⟩
section
variable {y : MethodName} {bytes cc : ByteArray} {maxL nL mc ms n index : Nat} {ret : Option FieldType} {ws : List Cond} {rm : Room} {Pc : Array Value → State → Prop} {Qc : Array Value → State → Outcome → State → Prop} {XC : String → State → State → Prop} {free : Addr → Prop} {Ts : List Cond} {own C : String} {b : Addr} {As rest : List Value} {g : JFrame}
theorem vx_runVX {hh : List (Nat × Nat × Nat × Nat)} (S : CallFix p m c cc nL s args Ts own) (hM : vx_Met l y ws rm Pc Qc XC mc ms free) (cw : vx_CVW R s args own C index y bytes maxL ret hh ws rm mc ms n) (hp : PreV s H C b Pc As)
    (hg : g.method = m) (hn : As.length = n) (hsize : g.locals.size = nL) (hstack : g.stack = As.reverse ++ .ref b :: rest) (hW : 2 * g.monitorRoom + (rest.map fun v => v.category).sum ≤ 8) (hdg : decode cc g.pc = .ok (.invokevirtual index, 3)) (hf : cells + mc ≤ R.cells ∧ slots + ms ≤ R.slots) :
    vx_Run p l e R s m args below meth c H locs cells slots mc ms g rest (Qc (Value.ref b :: As).toArray) XC free := by
  obtain ⟨⟨hrc, hrs, hfr, hlo, hws, hcw⟩, hcode, hini, hy, hlen, hl, hin, hse⟩ := cw
  have hK : vx_Back l R p e below s args y 3 8 (PreOf R mc ms Pc) (PostOf Qc mc ms free) (vx_Post XC mc ms free) := vx_backW (hh := hh) (bytes := bytes) (maxL := maxL) (ret := ret) hM hp.1 hrc hrs hfr hlo hws hcw (fun a' U hW => word_at hW (Or.inl (by first | rfl | simp [Cond.onTables, Cond.keeps, Cond.steady])) hini)
  obtain ⟨hx, hb, hml, ho, -⟩ := S
  obtain ⟨-, ⟨cellB, hcB, hoB, hclB⟩, hPc⟩ := hp
  intro T hT X
  rcases vx_callVX X hx (C := C) (hh := hh) (bytes := bytes) (maxL := maxL) (ret := ret) ho hl hin hse hcode hy hK (by rw [hT]; exact hcB) hoB hclB hg (hsize.trans hml.symm) (argsL := As) (rest := rest) (fun sig h => hn.trans (hlen sig h)) hstack hW (by rw [hb]; exact hdg)
    (fun vm₁ hW₁ => ⟨hf.1, hf.2, hPc (T.setVm vm₁) hT hW₁⟩) with ⟨v, vm₁, ⟨U', l2, c2, s2⟩, hW₁, X', ⟨g', mk, t, L, e1, e2, hq, h1, hL, h2, h3⟩, st⟩ | ⟨q, vm₁, ⟨U', l2, c2, s2⟩, hW₁, X', ⟨g', mk, t, L, E, ce, e1, e2, hq, hce, hcv, hcl, h1, hL, h2, h3⟩, st⟩
  · dsimp only [Pt.U, Pt.locs, Pt.cells, Pt.slots] at X' e1 e2 h1 h2 h3 st
    subst h1; subst h2; subst h3
    exact Or.inl ⟨v, (T.setVm vm₁).calling g' mk (Value.ref b :: As).toArray, t, U', L, hT, X', hL, e1, e2, hq, st⟩
  · dsimp only [Pt.U, Pt.locs, Pt.cells, Pt.slots] at X' e1 e2 h1 h2 h3 st hcl
    subst h1; subst h2; subst h3
    exact Or.inr ⟨q, (T.setVm vm₁).calling g' mk (Value.ref b :: As).toArray, t, U', L, E, ce, hT, X', hL, e1, e2, hq, hce, hcv, vx_cls hW₁ hcl, st⟩
theorem vx_runSX {hh : List (Nat × Nat × Nat × Nat)} (S : CallFix p m c cc nL s args Ts own) (hM : vx_Met l y ws rm Pc Qc XC mc ms free) (cw : vx_CSW R s args own index y bytes maxL ret hh ws rm mc ms n) (hp : PreS s H Pc As)
    (hg : g.method = m) (hn : As.length = n) (hsize : g.locals.size = nL) (hstack : g.stack = As.reverse ++ rest) (hW : 2 * g.monitorRoom + (rest.map fun v => v.category).sum ≤ 8) (hdg : decode cc g.pc = .ok (.invokestatic index, 3)) (hf : cells + mc ≤ R.cells ∧ slots + ms ≤ R.slots) :
    vx_Run p l e R s m args below meth c H locs cells slots mc ms g rest (Qc As.toArray) XC free := by
  obtain ⟨⟨hrc, hrs, hfr, hlo, hws, hcw⟩, hcode, hini, hy, hlen, hl, hstt⟩ := cw
  have hK : vx_Back l R p e below s args y 3 8 (PreOf R mc ms Pc) (PostOf Qc mc ms free) (vx_Post XC mc ms free) := vx_backW (hh := hh) (bytes := bytes) (maxL := maxL) (ret := ret) hM hp.1 hrc hrs hfr hlo hws hcw (fun a' U hW => word_at hW (Or.inl (by first | rfl | simp [Cond.onTables, Cond.keeps, Cond.steady])) hini)
  obtain ⟨hx, hb, hml, ho, -⟩ := S
  intro T hT X
  rcases vx_callSX X hx (hh := hh) (bytes := bytes) (maxL := maxL) (ret := ret) ho hl hstt hini hcode hy hK hg (hsize.trans hml.symm) (argsL := As) (rest := rest) (fun sig h => hn.trans (hlen sig h)) hstack hW (by rw [hb]; exact hdg)
    (fun vm₁ hW₁ => ⟨hf.1, hf.2, hp.2 (T.setVm vm₁) hT hW₁⟩) with ⟨v, vm₁, ⟨U', l2, c2, s2⟩, hW₁, X', ⟨g', mk, t, L, e1, e2, hq, h1, hL, h2, h3⟩, st⟩ | ⟨q, vm₁, ⟨U', l2, c2, s2⟩, hW₁, X', ⟨g', mk, t, L, E, ce, e1, e2, hq, hce, hcv, hcl, h1, hL, h2, h3⟩, st⟩
  · dsimp only [Pt.U, Pt.locs, Pt.cells, Pt.slots] at X' e1 e2 h1 h2 h3 st
    subst h1; subst h2; subst h3
    exact Or.inl ⟨v, (T.setVm vm₁).calling g' mk As.toArray, t, U', L, hT, X', hL, e1, e2, hq, st⟩
  · dsimp only [Pt.U, Pt.locs, Pt.cells, Pt.slots] at X' e1 e2 h1 h2 h3 st hcl
    subst h1; subst h2; subst h3
    exact Or.inr ⟨q, (T.setVm vm₁).calling g' mk As.toArray, t, U', L, E, ce, hT, X', hL, e1, e2, hq, hce, hcv, vx_cls hW₁ hcl, st⟩
end
end VXH
theorem vx_ofWH {l : Launch} {y : MethodName} {ws ws' : List Cond} {rm : Room} {Pc : Array Value → State → Prop} {Qc : Array Value → State → Outcome → State → Prop} {XC : String → State → State → Prop} {mc ms : Nat} {free : Addr → Prop} {cc : ByteArray} {maxL : Nat} {ret : Option FieldType} {hh : List (Nat × Nat × Nat × Nat)}
    (hy : plainName y.cls = true) (hw : ws = Cond.codeWith y cc maxL ret hh :: ws')
    (body : ∀ p e s m args below meth c s₁, BodyLoose p l y (headSpec ws rm) cc maxL ret e s m args below meth c s₁ → c.maxLocals = maxL → Pc args s →
      W p l e (headSpec ws rm).room s m args below meth c s.heap [] 0 0 (vx_MQ below Qc XC args s mc ms free) (entryFrame m args maxL)) : vx_Met l y ws rm Pc Qc XC mc ms free := by
  refine MetFree.of_bodyS (code := cc) (maxLocals := maxL) (ret := ret) hy ?_ ?_
  · intro args s m h hn
    obtain ⟨m9, meth, c, hn9, h1, h2, h3, h4, -, h5, h6, -⟩ := Cond.codeWith_spec (atoms_spec (ws := ws) h _ (by rw [hw]; exact List.mem_cons_self))
    cases hn.symm.trans hn9
    exact ⟨meth, c, h1, h2, h3, h4, h5, h6⟩
  · intro p e s m args below meth c s₁ B hml hP _
    have hh0 : s₁.heap = s.heap := by rw [B.state]; rfl
    obtain ⟨t, a1, o, b1, b2, b3⟩ := body p e s m args below meth c s₁ B hml hP s₁ hh0 (Stand.of_body B)
    exact ⟨t, o, a1, b1, b2, b3⟩
/-! ===== END ===== -/
end
section
/-! ===== BEGIN printed: names, fields, word lists, decode rows ===== -/
def RX0 : String := "FormFinds$ItemRow"
def TX0 : u_T := fun k => match k with
  | 0 => ("FormFinds$ItemRow", "values", "[I", true)
  | _ => ("FormFinds$ItemRow", "size", "I", false)
def tyX0 : Nat → FieldType := fun k => match k with
  | 0 => .array .int
  | _ => .int
abbrev wsX00 : List Cond := u_ws RX0 TX0 2
theorem nmX0 : ∀ a, a < 2 → ∀ b, b < 2 → a ≠ b → (TX0 a).2.1 ≠ (TX0 b).2.1 := by decide +kernel
theorem tyX0_ok : ∀ k, k < 2 → parseFieldDescriptor (TX0 k).2.2.1 = some (tyX0 k) := by decide +kernel
abbrev cX0_init : ByteArray := prog_2_method_1_code
def yX0_init : MethodName := ⟨RX0, "<init>", "()V"⟩
abbrev cX0_countIn : ByteArray := prog_2_method_2_code
def yX0_countIn : MethodName := ⟨RX0, "countIn", "(LFormFinds$NoteRow;I)I"⟩
abbrev cX0_valueIn : ByteArray := prog_2_method_3_code
def yX0_valueIn : MethodName := ⟨RX0, "valueIn", "(LFormFinds$NoteRow;II)I"⟩
abbrev cX0_read : ByteArray := prog_2_method_4_code
def yX0_read : MethodName := ⟨RX0, "read", "(LFormFinds$NoteRow;I)V"⟩
abbrev cX0_countDifferent : ByteArray := prog_2_method_5_code
def yX0_countDifferent : MethodName := ⟨RX0, "countDifferent", "(I)I"⟩
abbrev cX0_cameBefore : ByteArray := prog_2_method_6_code
def yX0_cameBefore : MethodName := ⟨RX0, "cameBefore", "(II)Z"⟩
abbrev cX0_sameRun : ByteArray := prog_2_method_7_code
def yX0_sameRun : MethodName := ⟨RX0, "sameRun", "(II)I"⟩
abbrev cX0_repeatLength : ByteArray := prog_2_method_8_code
def yX0_repeatLength : MethodName := ⟨RX0, "repeatLength", "(II)I"⟩
abbrev cX0_leastPeriod : ByteArray := prog_2_method_9_code
def yX0_leastPeriod : MethodName := ⟨RX0, "leastPeriod", "()I"⟩
abbrev cX0_countSame : ByteArray := prog_2_method_10_code
def yX0_countSame : MethodName := ⟨RX0, "countSame", "(III)I"⟩
def RX1 : String := "FormFinds$NoteRow"
def TX1 : u_T := fun k => match k with
  | 0 => ("FormFinds$NoteRow", "pitches", "[I", true)
  | 1 => ("FormFinds$NoteRow", "lengths", "[I", true)
  | _ => ("FormFinds$NoteRow", "size", "I", false)
def tyX1 : Nat → FieldType := fun k => match k with
  | 0 => .array .int
  | 1 => .array .int
  | _ => .int
abbrev wsX10 : List Cond := u_ws RX1 TX1 3
theorem nmX1 : ∀ a, a < 3 → ∀ b, b < 3 → a ≠ b → (TX1 a).2.1 ≠ (TX1 b).2.1 := by decide +kernel
theorem tyX1_ok : ∀ k, k < 3 → parseFieldDescriptor (TX1 k).2.2.1 = some (tyX1 k) := by decide +kernel
abbrev cX1_init : ByteArray := prog_3_method_1_code
def yX1_init : MethodName := ⟨RX1, "<init>", "()V"⟩
abbrev cX1_append : ByteArray := prog_3_method_2_code
def yX1_append : MethodName := ⟨RX1, "append", "(II)V"⟩
abbrev cX1_stepTo : ByteArray := prog_3_method_3_code
def yX1_stepTo : MethodName := ⟨RX1, "stepTo", "(I)I"⟩
def RX2 : String := "FormFinds$Parting"
def TX2 : u_T := fun k => match k with
  | 0 => ("FormFinds$Parting", "starts", "[I", true)
  | 1 => ("FormFinds$Parting", "size", "I", false)
  | 2 => ("FormFinds$Parting", "cost", "I", false)
  | 3 => ("FormFinds$Parting", "leastCost", "[I", true)
  | 4 => ("FormFinds$Parting", "fewest", "[I", true)
  | _ => ("FormFinds$Parting", "firstEnd", "[I", true)
def tyX2 : Nat → FieldType := fun k => match k with
  | 0 => .array .int
  | 1 => .int
  | 2 => .int
  | 3 => .array .int
  | 4 => .array .int
  | _ => .array .int
abbrev wsX20 : List Cond := u_ws RX2 TX2 6
theorem nmX2 : ∀ a, a < 6 → ∀ b, b < 6 → a ≠ b → (TX2 a).2.1 ≠ (TX2 b).2.1 := by decide +kernel
theorem tyX2_ok : ∀ k, k < 6 → parseFieldDescriptor (TX2 k).2.2.1 = some (tyX2 k) := by decide +kernel
abbrev cX2_init : ByteArray := prog_4_method_1_code
def yX2_init : MethodName := ⟨RX2, "<init>", "()V"⟩
abbrev cX2_part : ByteArray := prog_4_method_2_code
def yX2_part : MethodName := ⟨RX2, "part", "(LFormFinds$NoteRow;II)V"⟩
abbrev cX2_weighFrom : ByteArray := prog_4_method_3_code
def yX2_weighFrom : MethodName := ⟨RX2, "weighFrom", "(LFormFinds$NoteRow;III)V"⟩
abbrev cX2_isBetter : ByteArray := prog_4_method_4_code
def yX2_isBetter : MethodName := ⟨RX2, "isBetter", "(III)Z"⟩
def RX3 : String := "FormFinds$PlaceList"
def TX3 : u_T := fun k => match k with
  | 0 => ("FormFinds$PlaceList", "starts", "[I", true)
  | _ => ("FormFinds$PlaceList", "size", "I", false)
def tyX3 : Nat → FieldType := fun k => match k with
  | 0 => .array .int
  | _ => .int
abbrev wsX30 : List Cond := u_ws RX3 TX3 2
theorem nmX3 : ∀ a, a < 2 → ∀ b, b < 2 → a ≠ b → (TX3 a).2.1 ≠ (TX3 b).2.1 := by decide +kernel
theorem tyX3_ok : ∀ k, k < 2 → parseFieldDescriptor (TX3 k).2.2.1 = some (tyX3 k) := by decide +kernel
abbrev cX3_init : ByteArray := prog_5_method_1_code
def yX3_init : MethodName := ⟨RX3, "<init>", "()V"⟩
abbrev cX3_append : ByteArray := prog_5_method_2_code
def yX3_append : MethodName := ⟨RX3, "append", "(I)V"⟩
def RX4 : String := "FormFinds$RepeatList"
def TX4 : u_T := fun k => match k with
  | 0 => ("FormFinds$RepeatList", "parts", "[I", true)
  | 1 => ("FormFinds$RepeatList", "slots", "[I", true)
  | _ => ("FormFinds$RepeatList", "size", "I", false)
def tyX4 : Nat → FieldType := fun k => match k with
  | 0 => .array .int
  | 1 => .array .int
  | _ => .int
abbrev wsX40 : List Cond := u_ws RX4 TX4 3
theorem nmX4 : ∀ a, a < 3 → ∀ b, b < 3 → a ≠ b → (TX4 a).2.1 ≠ (TX4 b).2.1 := by decide +kernel
theorem tyX4_ok : ∀ k, k < 3 → parseFieldDescriptor (TX4 k).2.2.1 = some (tyX4 k) := by decide +kernel
abbrev cX4_init : ByteArray := prog_6_method_1_code
def yX4_init : MethodName := ⟨RX4, "<init>", "()V"⟩
abbrev cX4_partOf : ByteArray := prog_6_method_2_code
def yX4_partOf : MethodName := ⟨RX4, "partOf", "(II)I"⟩
abbrev cX4_gather : ByteArray := prog_6_method_3_code
def yX4_gather : MethodName := ⟨RX4, "gather", "(LFormFinds$ItemRow;I)V"⟩
abbrev cX4_countByLength : ByteArray := prog_6_method_4_code
def yX4_countByLength : MethodName := ⟨RX4, "countByLength", "(LFormFinds$ItemRow;I)V"⟩
abbrev cX4_giveSlotsLongestFirst : ByteArray := prog_6_method_5_code
def yX4_giveSlotsLongestFirst : MethodName := ⟨RX4, "giveSlotsLongestFirst", "()V"⟩
abbrev cX4_putInSlots : ByteArray := prog_6_method_6_code
def yX4_putInSlots : MethodName := ⟨RX4, "putInSlots", "(LFormFinds$ItemRow;I)V"⟩
abbrev cX4_put : ByteArray := prog_6_method_7_code
def yX4_put : MethodName := ⟨RX4, "put", "(IIII)V"⟩
def RX5 : String := "FormFinds"
def TX5 : u_T := fun k => match k with
  | 0 => ("FormFinds", "notes", "LFormFinds$NoteRow;", true)
  | 1 => ("FormFinds", "theme", "LFormFinds$NoteRow;", true)
  | 2 => ("FormFinds", "sought", "LFormFinds$NoteRow;", true)
  | 3 => ("FormFinds", "row", "LFormFinds$ItemRow;", true)
  | 4 => ("FormFinds", "again", "LFormFinds$RepeatList;", true)
  | 5 => ("FormFinds", "places", "LFormFinds$PlaceList;", true)
  | _ => ("FormFinds", "parting", "LFormFinds$Parting;", true)
def tyX5 : Nat → FieldType := fun k => match k with
  | 0 => .object "FormFinds$NoteRow"
  | 1 => .object "FormFinds$NoteRow"
  | 2 => .object "FormFinds$NoteRow"
  | 3 => .object "FormFinds$ItemRow"
  | 4 => .object "FormFinds$RepeatList"
  | 5 => .object "FormFinds$PlaceList"
  | _ => .object "FormFinds$Parting"
abbrev wsX50 : List Cond := u_ws RX5 TX5 7
theorem nmX5 : ∀ a, a < 7 → ∀ b, b < 7 → a ≠ b → (TX5 a).2.1 ≠ (TX5 b).2.1 := by decide +kernel
theorem tyX5_ok : ∀ k, k < 7 → parseFieldDescriptor (TX5 k).2.2.1 = some (tyX5 k) := by decide +kernel
abbrev cX5_init : ByteArray := prog_1_method_1_code
def yX5_init : MethodName := ⟨RX5, "<init>", "()V"⟩
abbrev cX5_clear : ByteArray := prog_1_method_2_code
def yX5_clear : MethodName := ⟨RX5, "clear", "()I"⟩
abbrev cX5_note : ByteArray := prog_1_method_3_code
def yX5_note : MethodName := ⟨RX5, "note", "(II)I"⟩
abbrev cX5_drop : ByteArray := prog_1_method_4_code
def yX5_drop : MethodName := ⟨RX5, "drop", "(I)I"⟩
abbrev cX5_items : ByteArray := prog_1_method_5_code
def yX5_items : MethodName := ⟨RX5, "items", "(I)I"⟩
abbrev cX5_item : ByteArray := prog_1_method_6_code
def yX5_item : MethodName := ⟨RX5, "item", "(II)I"⟩
abbrev cX5_repeats : ByteArray := prog_1_method_7_code
def yX5_repeats : MethodName := ⟨RX5, "repeats", "(II)I"⟩
abbrev cX5_repeat : ByteArray := prog_1_method_8_code
def yX5_repeat : MethodName := ⟨RX5, "repeat", "(II)I"⟩
abbrev cX5_passages : ByteArray := prog_1_method_9_code
def yX5_passages : MethodName := ⟨RX5, "passages", "(II)I"⟩
abbrev cX5_period : ByteArray := prog_1_method_10_code
def yX5_period : MethodName := ⟨RX5, "period", "(I)I"⟩
abbrev cX5_alike : ByteArray := prog_1_method_11_code
def yX5_alike : MethodName := ⟨RX5, "alike", "(IIII)I"⟩
abbrev cX5_motive : ByteArray := prog_1_method_12_code
def yX5_motive : MethodName := ⟨RX5, "motive", "(II)I"⟩
abbrev cX5_form : ByteArray := prog_1_method_13_code
def yX5_form : MethodName := ⟨RX5, "form", "(III)I"⟩
abbrev cX5_find : ByteArray := prog_1_method_14_code
def yX5_find : MethodName := ⟨RX5, "find", "(III)I"⟩
abbrev cX5_answer : ByteArray := prog_1_method_15_code
def yX5_answer : MethodName := ⟨RX5, "answer", "(III)I"⟩
abbrev cX5_entries : ByteArray := prog_1_method_16_code
def yX5_entries : MethodName := ⟨RX5, "entries", "(II)I"⟩
abbrev cX5_found : ByteArray := prog_1_method_17_code
def yX5_found : MethodName := ⟨RX5, "found", "(I)I"⟩
abbrev cX5_sections : ByteArray := prog_1_method_18_code
def yX5_sections : MethodName := ⟨RX5, "sections", "(II)I"⟩
abbrev cX5_section : ByteArray := prog_1_method_19_code
def yX5_section : MethodName := ⟨RX5, "section", "(I)I"⟩
abbrev cX5_of : ByteArray := prog_1_method_20_code
def yX5_of : MethodName := ⟨RX5, "of", "(I)I"⟩
abbrev cX5_isWithin : ByteArray := prog_1_method_21_code
def yX5_isWithin : MethodName := ⟨RX5, "isWithin", "(III)Z"⟩
abbrev cX5_isView : ByteArray := prog_1_method_22_code
def yX5_isView : MethodName := ⟨RX5, "isView", "(I)Z"⟩
abbrev cX5_isForm : ByteArray := prog_1_method_23_code
def yX5_isForm : MethodName := ⟨RX5, "isForm", "(I)Z"⟩
abbrev cX5_isScale : ByteArray := prog_1_method_24_code
def yX5_isScale : MethodName := ⟨RX5, "isScale", "(II)Z"⟩
abbrev cX5_isKeyAndHead : ByteArray := prog_1_method_25_code
def yX5_isKeyAndHead : MethodName := ⟨RX5, "isKeyAndHead", "(II)Z"⟩
abbrev cX5_formPitch : ByteArray := prog_1_method_26_code
def yX5_formPitch : MethodName := ⟨RX5, "formPitch", "(II)I"⟩
abbrev cX5_formLength : ByteArray := prog_1_method_27_code
def yX5_formLength : MethodName := ⟨RX5, "formLength", "(II)I"⟩
abbrev cX5_placeInTheme : ByteArray := prog_1_method_28_code
def yX5_placeInTheme : MethodName := ⟨RX5, "placeInTheme", "(II)I"⟩
abbrev cX5_answerPitch : ByteArray := prog_1_method_29_code
def yX5_answerPitch : MethodName := ⟨RX5, "answerPitch", "(III)I"⟩
abbrev cX5_lookForSought : ByteArray := prog_1_method_30_code
def yX5_lookForSought : MethodName := ⟨RX5, "lookForSought", "(II)V"⟩
abbrev cX5_isSoughtAt : ByteArray := prog_1_method_31_code
def yX5_isSoughtAt : MethodName := ⟨RX5, "isSoughtAt", "(III)Z"⟩
def RX6 : String := "FormFindsModel"
def TX6 : u_T := fun k => match k with
  | 0 => ("FormFindsModel", "thrown", "I", false)
  | 1 => ("FormFindsModel", "notes", "I", false)
  | 2 => ("FormFindsModel", "pitch", "[I", true)
  | 3 => ("FormFindsModel", "length", "[I", true)
  | 4 => ("FormFindsModel", "repeats", "I", false)
  | 5 => ("FormFindsModel", "repeatRow", "[I", true)
  | 6 => ("FormFindsModel", "motive", "I", false)
  | 7 => ("FormFindsModel", "motivePitch", "[I", true)
  | 8 => ("FormFindsModel", "motiveLength", "[I", true)
  | 9 => ("FormFindsModel", "places", "I", false)
  | 10 => ("FormFindsModel", "place", "[I", true)
  | 11 => ("FormFindsModel", "sections", "I", false)
  | 12 => ("FormFindsModel", "cost", "I", false)
  | 13 => ("FormFindsModel", "begins", "[I", true)
  | 14 => ("FormFindsModel", "lookPitch", "[I", true)
  | 15 => ("FormFindsModel", "least", "[I", true)
  | 16 => ("FormFindsModel", "fewest", "[I", true)
  | _ => ("FormFindsModel", "nextOne", "[I", true)
def tyX6 : Nat → FieldType := fun k => match k with
  | 0 => .int
  | 1 => .int
  | 2 => .array .int
  | 3 => .array .int
  | 4 => .int
  | 5 => .array .int
  | 6 => .int
  | 7 => .array .int
  | 8 => .array .int
  | 9 => .int
  | 10 => .array .int
  | 11 => .int
  | 12 => .int
  | 13 => .array .int
  | 14 => .array .int
  | 15 => .array .int
  | 16 => .array .int
  | _ => .array .int
abbrev wsX60 : List Cond := u_ws RX6 TX6 18
theorem nmX6 : ∀ a, a < 18 → ∀ b, b < 18 → a ≠ b → (TX6 a).2.1 ≠ (TX6 b).2.1 := by decide +kernel
theorem tyX6_ok : ∀ k, k < 18 → parseFieldDescriptor (TX6 k).2.2.1 = some (tyX6 k) := by decide +kernel
abbrev cX6_init : ByteArray := prog_8_method_1_code
def yX6_init : MethodName := ⟨RX6, "<init>", "()V"⟩
abbrev cX6_thrown : ByteArray := prog_8_method_2_code
def yX6_thrown : MethodName := ⟨RX6, "thrown", "()I"⟩
abbrev cX6_begin : ByteArray := prog_8_method_3_code
def yX6_begin : MethodName := ⟨RX6, "begin", "()V"⟩
abbrev cX6_clear : ByteArray := prog_8_method_4_code
def yX6_clear : MethodName := ⟨RX6, "clear", "()I"⟩
abbrev cX6_isIn : ByteArray := prog_8_method_5_code
def yX6_isIn : MethodName := ⟨RX6, "isIn", "(JJJ)Z"⟩
abbrev cX6_goesOn : ByteArray := prog_8_method_6_code
def yX6_goesOn : MethodName := ⟨RX6, "goesOn", "(ZI)Z"⟩
abbrev cX6_note : ByteArray := prog_8_method_7_code
def yX6_note : MethodName := ⟨RX6, "note", "(II)I"⟩
abbrev cX6_drop : ByteArray := prog_8_method_8_code
def yX6_drop : MethodName := ⟨RX6, "drop", "(I)I"⟩
abbrev cX6_many : ByteArray := prog_8_method_9_code
def yX6_many : MethodName := ⟨RX6, "many", "(I)I"⟩
abbrev cX6_itemOf : ByteArray := prog_8_method_10_code
def yX6_itemOf : MethodName := ⟨RX6, "itemOf", "(II)I"⟩
abbrev cX6_isView : ByteArray := prog_8_method_11_code
def yX6_isView : MethodName := ⟨RX6, "isView", "(I)Z"⟩
abbrev cX6_items : ByteArray := prog_8_method_12_code
def yX6_items : MethodName := ⟨RX6, "items", "(I)I"⟩
abbrev cX6_item : ByteArray := prog_8_method_13_code
def yX6_item : MethodName := ⟨RX6, "item", "(II)I"⟩
abbrev cX6_common : ByteArray := prog_8_method_14_code
def yX6_common : MethodName := ⟨RX6, "common", "(III)I"⟩
abbrev cX6_repeats : ByteArray := prog_8_method_15_code
def yX6_repeats : MethodName := ⟨RX6, "repeats", "(II)I"⟩
abbrev cX6_repeat : ByteArray := prog_8_method_16_code
def yX6_repeat : MethodName := ⟨RX6, "repeat", "(II)I"⟩
abbrev cX6_passages : ByteArray := prog_8_method_17_code
def yX6_passages : MethodName := ⟨RX6, "passages", "(II)I"⟩
abbrev cX6_period : ByteArray := prog_8_method_18_code
def yX6_period : MethodName := ⟨RX6, "period", "(I)I"⟩
abbrev cX6_alike : ByteArray := prog_8_method_19_code
def yX6_alike : MethodName := ⟨RX6, "alike", "(IIII)I"⟩
abbrev cX6_motive : ByteArray := prog_8_method_20_code
def yX6_motive : MethodName := ⟨RX6, "motive", "(II)I"⟩
abbrev cX6_source : ByteArray := prog_8_method_21_code
def yX6_source : MethodName := ⟨RX6, "source", "(II)I"⟩
abbrev cX6_formPitch : ByteArray := prog_8_method_22_code
def yX6_formPitch : MethodName := ⟨RX6, "formPitch", "(II)I"⟩
abbrev cX6_form : ByteArray := prog_8_method_23_code
def yX6_form : MethodName := ⟨RX6, "form", "(III)I"⟩
abbrev cX6_answerPitch : ByteArray := prog_8_method_24_code
def yX6_answerPitch : MethodName := ⟨RX6, "answerPitch", "(III)I"⟩
abbrev cX6_goes : ByteArray := prog_8_method_25_code
def yX6_goes : MethodName := ⟨RX6, "goes", "(I)Z"⟩
abbrev cX6_find : ByteArray := prog_8_method_26_code
def yX6_find : MethodName := ⟨RX6, "find", "(III)I"⟩
abbrev cX6_answer : ByteArray := prog_8_method_27_code
def yX6_answer : MethodName := ⟨RX6, "answer", "(III)I"⟩
abbrev cX6_entries : ByteArray := prog_8_method_28_code
def yX6_entries : MethodName := ⟨RX6, "entries", "(II)I"⟩
abbrev cX6_found : ByteArray := prog_8_method_29_code
def yX6_found : MethodName := ⟨RX6, "found", "(I)I"⟩
abbrev cX6_costOf : ByteArray := prog_8_method_30_code
def yX6_costOf : MethodName := ⟨RX6, "costOf", "(IIII)I"⟩
abbrev cX6_sections : ByteArray := prog_8_method_31_code
def yX6_sections : MethodName := ⟨RX6, "sections", "(II)I"⟩
abbrev cX6_section : ByteArray := prog_8_method_32_code
def yX6_section : MethodName := ⟨RX6, "section", "(I)I"⟩
abbrev cX6_of : ByteArray := prog_8_method_33_code
def yX6_of : MethodName := ⟨RX6, "of", "(I)I"⟩
def RJ6 : String := "java/lang/Integer"
def TJ6 : u_T := fun k => match k with
  | _ => ("", "", "", false)
def tyJ6 : Nat → FieldType := fun k => match k with
  | _ => .int
abbrev wsJ60 : List Cond := u_ws RJ6 TJ6 0
theorem nmJ6 : ∀ a, a < 0 → ∀ b, b < 0 → a ≠ b → (TJ6 a).2.1 ≠ (TJ6 b).2.1 := by decide +kernel
theorem tyJ6_ok : ∀ k, k < 0 → parseFieldDescriptor (TJ6 k).2.2.1 = some (tyJ6 k) := by decide +kernel
abbrev cJ6_signum_0f7a4 : ByteArray := prog_13_method_56_code
def yJ6_signum_0f7a4 : MethodName := ⟨RJ6, "signum", "(I)I"⟩
def RJ9 : String := "java/lang/Math"
def TJ9 : u_T := fun k => match k with
  | _ => ("", "", "", false)
def tyJ9 : Nat → FieldType := fun k => match k with
  | _ => .int
abbrev wsJ90 : List Cond := u_ws RJ9 TJ9 0
theorem nmJ9 : ∀ a, a < 0 → ∀ b, b < 0 → a ≠ b → (TJ9 a).2.1 ≠ (TJ9 b).2.1 := by decide +kernel
theorem tyJ9_ok : ∀ k, k < 0 → parseFieldDescriptor (TJ9 k).2.2.1 = some (tyJ9 k) := by decide +kernel
abbrev cJ9_floorMod_7cf53 : ByteArray := prog_14_method_50_code
def yJ9_floorMod_7cf53 : MethodName := ⟨RJ9, "floorMod", "(II)I"⟩
abbrev cJ9_max_7cf53 : ByteArray := prog_14_method_65_code
def yJ9_max_7cf53 : MethodName := ⟨RJ9, "max", "(II)I"⟩
abbrev cJ9_min_7cf53 : ByteArray := prog_14_method_69_code
def yJ9_min_7cf53 : MethodName := ⟨RJ9, "min", "(II)I"⟩
def RJ0 : String := "java/lang/String"
def TJ0 : u_T := fun k => match k with
  | _ => ("", "", "", false)
def tyJ0 : Nat → FieldType := fun k => match k with
  | _ => .int
abbrev wsJ00 : List Cond := u_ws RJ0 TJ0 0
theorem nmJ0 : ∀ a, a < 0 → ∀ b, b < 0 → a ≠ b → (TJ0 a).2.1 ≠ (TJ0 b).2.1 := by decide +kernel
theorem tyJ0_ok : ∀ k, k < 0 → parseFieldDescriptor (TJ0 k).2.2.1 = some (tyJ0 k) := by decide +kernel
def RL : String := "FormFindsLaw"
abbrev cL_note : ByteArray := method_3_code
def yL_note : MethodName := ⟨RL, "note", "(LFormFinds;II[J)I"⟩
abbrev cL_drop : ByteArray := method_4_code
def yL_drop : MethodName := ⟨RL, "drop", "(LFormFinds;I[J)I"⟩
abbrev cL_items : ByteArray := method_5_code
def yL_items : MethodName := ⟨RL, "items", "(LFormFinds;I[J)I"⟩
abbrev cL_item : ByteArray := method_6_code
def yL_item : MethodName := ⟨RL, "item", "(LFormFinds;II[J)I"⟩
abbrev cL_repeats : ByteArray := method_7_code
def yL_repeats : MethodName := ⟨RL, "repeats", "(LFormFinds;II[J)I"⟩
abbrev cL_repeat : ByteArray := method_8_code
def yL_repeat : MethodName := ⟨RL, "repeat", "(LFormFinds;II[J)I"⟩
abbrev cL_passages : ByteArray := method_9_code
def yL_passages : MethodName := ⟨RL, "passages", "(LFormFinds;II[J)I"⟩
abbrev cL_period : ByteArray := method_10_code
def yL_period : MethodName := ⟨RL, "period", "(LFormFinds;I[J)I"⟩
abbrev cL_alike : ByteArray := method_11_code
def yL_alike : MethodName := ⟨RL, "alike", "(LFormFinds;IIII[J)I"⟩
abbrev cL_motive : ByteArray := method_12_code
def yL_motive : MethodName := ⟨RL, "motive", "(LFormFinds;II[J)I"⟩
abbrev cL_form : ByteArray := method_13_code
def yL_form : MethodName := ⟨RL, "form", "(LFormFinds;III[J)I"⟩
abbrev cL_find : ByteArray := method_14_code
def yL_find : MethodName := ⟨RL, "find", "(LFormFinds;III[J)I"⟩
abbrev cL_answer : ByteArray := method_15_code
def yL_answer : MethodName := ⟨RL, "answer", "(LFormFinds;III[J)I"⟩
abbrev cL_entries : ByteArray := method_16_code
def yL_entries : MethodName := ⟨RL, "entries", "(LFormFinds;II[J)I"⟩
abbrev cL_found : ByteArray := method_17_code
def yL_found : MethodName := ⟨RL, "found", "(LFormFinds;I[J)I"⟩
abbrev cL_sections : ByteArray := method_18_code
def yL_sections : MethodName := ⟨RL, "sections", "(LFormFinds;II[J)I"⟩
abbrev cL_section : ByteArray := method_19_code
def yL_section : MethodName := ⟨RL, "section", "(LFormFinds;I[J)I"⟩
abbrev cL_of : ByteArray := method_20_code
def yL_of : MethodName := ⟨RL, "of", "(LFormFinds;I[J)I"⟩
abbrev cL_law : ByteArray := code
def yL_law : MethodName := ⟨RL, "law", "([I)Z"⟩
abbrev vwCl : List vw_C := [(RX0, TX0, 2), (RX1, TX1, 3), (RX2, TX2, 6), (RX3, TX3, 2), (RX4, TX4, 3), (RX5, TX5, 7), (RX6, TX6, 18)]
/-- the objects of FormFinds$ItemRow, kind 0: what each holds, by its address -/
def GW : List Cond := lw_tbl.filter goodWord
theorem gw_at {w : Cond} (i : Nat) (h : lw_tbl[i]? = some w) (hg : goodWord w = true) : w ∈ GW := List.mem_filter.mpr ⟨List.mem_of_getElem? h, hg⟩
theorem gw_ws {ws : List Cond} (ps : List Nat) (hp : ws = ps.filterMap (fun i => lw_tbl[i]?)) (hg : ws.all goodWord = true) : ∀ w ∈ ws, w ∈ GW := by
  intro w hw
  have h1 := List.all_eq_true.mp hg w hw
  rw [hp] at hw
  obtain ⟨i, -, hi⟩ := List.mem_filterMap.mp hw
  exact gw_at i hi h1
theorem gw_good {w : Cond} (h : w ∈ GW) : w ∈ GW ∧ ((w.onTables && w.keeps) = true ∨ ∃ ty, w = .arrayClass ty) := ⟨h, good_of_word (List.mem_filter.mp h).2⟩
/-- a method's words: its code first, then all good words of the tables -/
abbrev ww (y : MethodName) (c : ByteArray) (n : Nat) (r : Option FieldType) : List Cond := Cond.code y c n r :: GW
abbrev wwW (y : MethodName) (c : ByteArray) (n : Nat) (r : Option FieldType) (hh : List (Nat × Nat × Nat × Nat)) : List Cond := Cond.codeWith y c n r hh :: GW
theorem gw_V {own : String} {ix : Nat} {C : String} {y : MethodName} {c : ByteArray} {n : Nat} {r : Option FieldType} (h1 : Cond.methodLink own ix y ∈ GW) (h2 : Cond.instanceMethod y ∈ GW) (h3 : Cond.selects C y y ∈ GW) (h4 : Cond.initialized C ∈ GW) (h5 : Cond.code y c n r ∈ GW) : GoodIn GW (wsV own ix C y (ww y c n r)) := by
  intro w hw
  refine gw_good ?_
  rcases List.mem_append.mp hw with h | h
  · simp only [List.mem_cons, List.not_mem_nil, or_false] at h
    rcases h with rfl | rfl | rfl | rfl <;> assumption
  · rcases List.mem_cons.mp h with rfl | h
    · exact h5
    · exact h
theorem gw_S {own : String} {ix : Nat} {y : MethodName} {c : ByteArray} {n : Nat} {r : Option FieldType} (h1 : Cond.methodLink own ix y ∈ GW) (h2 : Cond.static y ∈ GW) (h4 : Cond.initialized y.cls ∈ GW) (h5 : Cond.code y c n r ∈ GW) : GoodIn GW (va_wsS own ix y (ww y c n r)) := by
  intro w hw
  refine gw_good ?_
  rcases List.mem_append.mp hw with h | h
  · simp only [List.mem_cons, List.not_mem_nil, or_false] at h
    rcases h with rfl | rfl | rfl <;> assumption
  · rcases List.mem_cons.mp h with rfl | h
    · exact h5
    · exact h
theorem gw_W {own : String} {ix : Nat} {y : MethodName} {c : ByteArray} {n : Nat} {r : Option FieldType} {hh : List (Nat × Nat × Nat × Nat)} (h1 : Cond.methodLink own ix y ∈ GW) (h2 : Cond.static y ∈ GW) (h4 : Cond.initialized y.cls ∈ GW) (h5 : Cond.codeWith y c n r hh ∈ GW) : GoodIn GW (va_wsS own ix y (wwW y c n r hh)) := by
  intro w hw
  refine gw_good ?_
  rcases List.mem_append.mp hw with h | h
  · simp only [List.mem_cons, List.not_mem_nil, or_false] at h
    rcases h with rfl | rfl | rfl <;> assumption
  · rcases List.mem_cons.mp h with rfl | h
    · exact h5
    · exact h
theorem gw_I {y : MethodName} {c : ByteArray} {n : Nat} {r : Option FieldType} (h5 : Cond.code y c n r ∈ GW) : GoodIn GW (ww y c n r) := by
  intro w hw
  refine gw_good ?_
  rcases List.mem_cons.mp hw with rfl | h
  · exact h5
  · exact h
end
section
theorem dX0_init_0 : decode cX0_init 0 = .ok (.aload_n 0, 1) := by decide +kernel
theorem dX0_init_1 : decode cX0_init 1 = .ok (.invokespecial 3, 3) := by decide +kernel
theorem dX0_init_4 : decode cX0_init 4 = .ok (.aload_n 0, 1) := by decide +kernel
theorem dX0_init_5 : decode cX0_init 5 = .ok (.bipush 60, 2) := by decide +kernel
theorem dX0_init_7 : decode cX0_init 7 = .ok (.newarray .int, 2) := by decide +kernel
theorem dX0_init_9 : decode cX0_init 9 = .ok (.putfield 9, 3) := by decide +kernel
theorem dX0_init_12 : decode cX0_init 12 = .ok (.return_, 1) := by decide +kernel
theorem dX0_countIn_0 : decode cX0_countIn 0 = .ok (.iload_n 1, 1) := by decide +kernel
theorem dX0_countIn_1 : decode cX0_countIn 1 = .ok (.iconst 1, 1) := by decide +kernel
theorem dX0_countIn_2 : decode cX0_countIn 2 = .ok (.if_icmp .eq 8, 3) := by decide +kernel
theorem dX0_countIn_5 : decode cX0_countIn 5 = .ok (.iload_n 1, 1) := by decide +kernel
theorem dX0_countIn_6 : decode cX0_countIn 6 = .ok (.iconst 2, 1) := by decide +kernel
theorem dX0_countIn_7 : decode cX0_countIn 7 = .ok (.if_icmp .ne 7, 3) := by decide +kernel
theorem dX0_countIn_10 : decode cX0_countIn 10 = .ok (.iconst 1, 1) := by decide +kernel
theorem dX0_countIn_11 : decode cX0_countIn 11 = .ok (.goto 4, 3) := by decide +kernel
theorem dX0_countIn_14 : decode cX0_countIn 14 = .ok (.iconst 0, 1) := by decide +kernel
theorem dX0_countIn_15 : decode cX0_countIn 15 = .ok (.istore_n 2, 1) := by decide +kernel
theorem dX0_countIn_16 : decode cX0_countIn 16 = .ok (.iload_n 2, 1) := by decide +kernel
theorem dX0_countIn_17 : decode cX0_countIn 17 = .ok (.ifCond .eq 19, 3) := by decide +kernel
theorem dX0_countIn_20 : decode cX0_countIn 20 = .ok (.aload_n 0, 1) := by decide +kernel
theorem dX0_countIn_21 : decode cX0_countIn 21 = .ok (.getfield 15, 3) := by decide +kernel
theorem dX0_countIn_24 : decode cX0_countIn 24 = .ok (.ifCond .le 12, 3) := by decide +kernel
theorem dX0_countIn_27 : decode cX0_countIn 27 = .ok (.aload_n 0, 1) := by decide +kernel
theorem dX0_countIn_28 : decode cX0_countIn 28 = .ok (.getfield 15, 3) := by decide +kernel
theorem dX0_countIn_31 : decode cX0_countIn 31 = .ok (.iconst 1, 1) := by decide +kernel
theorem dX0_countIn_32 : decode cX0_countIn 32 = .ok (.isub, 1) := by decide +kernel
theorem dX0_countIn_33 : decode cX0_countIn 33 = .ok (.goto 7, 3) := by decide +kernel
theorem dX0_countIn_36 : decode cX0_countIn 36 = .ok (.aload_n 0, 1) := by decide +kernel
theorem dX0_countIn_37 : decode cX0_countIn 37 = .ok (.getfield 15, 3) := by decide +kernel
theorem dX0_countIn_40 : decode cX0_countIn 40 = .ok (.ireturn, 1) := by decide +kernel
theorem dX0_valueIn_0 : decode cX0_valueIn 0 = .ok (.iload_n 1, 1) := by decide +kernel
theorem dX0_valueIn_1 : decode cX0_valueIn 1 = .ok (.tableswitch 64 0 3 #[31, 38, 46, 57], 31) := by decide +kernel
theorem dX0_valueIn_32 : decode cX0_valueIn 32 = .ok (.aload_n 0, 1) := by decide +kernel
theorem dX0_valueIn_33 : decode cX0_valueIn 33 = .ok (.getfield 21, 3) := by decide +kernel
theorem dX0_valueIn_36 : decode cX0_valueIn 36 = .ok (.iload_n 2, 1) := by decide +kernel
theorem dX0_valueIn_37 : decode cX0_valueIn 37 = .ok (.iaload, 1) := by decide +kernel
theorem dX0_valueIn_38 : decode cX0_valueIn 38 = .ok (.ireturn, 1) := by decide +kernel
theorem dX0_valueIn_39 : decode cX0_valueIn 39 = .ok (.aload_n 0, 1) := by decide +kernel
theorem dX0_valueIn_40 : decode cX0_valueIn 40 = .ok (.iload_n 2, 1) := by decide +kernel
theorem dX0_valueIn_41 : decode cX0_valueIn 41 = .ok (.iconst 1, 1) := by decide +kernel
theorem dX0_valueIn_42 : decode cX0_valueIn 42 = .ok (.iadd, 1) := by decide +kernel
theorem dX0_valueIn_43 : decode cX0_valueIn 43 = .ok (.invokevirtual 24, 3) := by decide +kernel
theorem dX0_valueIn_46 : decode cX0_valueIn 46 = .ok (.ireturn, 1) := by decide +kernel
theorem dX0_valueIn_47 : decode cX0_valueIn 47 = .ok (.aload_n 0, 1) := by decide +kernel
theorem dX0_valueIn_48 : decode cX0_valueIn 48 = .ok (.iload_n 2, 1) := by decide +kernel
theorem dX0_valueIn_49 : decode cX0_valueIn 49 = .ok (.iconst 1, 1) := by decide +kernel
theorem dX0_valueIn_50 : decode cX0_valueIn 50 = .ok (.iadd, 1) := by decide +kernel
theorem dX0_valueIn_51 : decode cX0_valueIn 51 = .ok (.invokevirtual 24, 3) := by decide +kernel
theorem dX0_valueIn_54 : decode cX0_valueIn 54 = .ok (.invokestatic 28, 3) := by decide +kernel
theorem dX0_valueIn_57 : decode cX0_valueIn 57 = .ok (.ireturn, 1) := by decide +kernel
theorem dX0_valueIn_58 : decode cX0_valueIn 58 = .ok (.aload_n 0, 1) := by decide +kernel
theorem dX0_valueIn_59 : decode cX0_valueIn 59 = .ok (.getfield 33, 3) := by decide +kernel
theorem dX0_valueIn_62 : decode cX0_valueIn 62 = .ok (.iload_n 2, 1) := by decide +kernel
theorem dX0_valueIn_63 : decode cX0_valueIn 63 = .ok (.iaload, 1) := by decide +kernel
theorem dX0_valueIn_64 : decode cX0_valueIn 64 = .ok (.ireturn, 1) := by decide +kernel
theorem dX0_valueIn_65 : decode cX0_valueIn 65 = .ok (.aload_n 0, 1) := by decide +kernel
theorem dX0_valueIn_66 : decode cX0_valueIn 66 = .ok (.getfield 21, 3) := by decide +kernel
theorem dX0_valueIn_69 : decode cX0_valueIn 69 = .ok (.iload_n 2, 1) := by decide +kernel
theorem dX0_valueIn_70 : decode cX0_valueIn 70 = .ok (.iaload, 1) := by decide +kernel
theorem dX0_valueIn_71 : decode cX0_valueIn 71 = .ok (.sipush 1000, 3) := by decide +kernel
theorem dX0_valueIn_74 : decode cX0_valueIn 74 = .ok (.imul, 1) := by decide +kernel
theorem dX0_valueIn_75 : decode cX0_valueIn 75 = .ok (.aload_n 0, 1) := by decide +kernel
theorem dX0_valueIn_76 : decode cX0_valueIn 76 = .ok (.getfield 33, 3) := by decide +kernel
theorem dX0_valueIn_79 : decode cX0_valueIn 79 = .ok (.iload_n 2, 1) := by decide +kernel
theorem dX0_valueIn_80 : decode cX0_valueIn 80 = .ok (.iaload, 1) := by decide +kernel
theorem dX0_valueIn_81 : decode cX0_valueIn 81 = .ok (.iadd, 1) := by decide +kernel
theorem dX0_valueIn_82 : decode cX0_valueIn 82 = .ok (.ireturn, 1) := by decide +kernel
theorem dX0_read_0 : decode cX0_read 0 = .ok (.aload_n 0, 1) := by decide +kernel
theorem dX0_read_1 : decode cX0_read 1 = .ok (.aload_n 1, 1) := by decide +kernel
theorem dX0_read_2 : decode cX0_read 2 = .ok (.iload_n 2, 1) := by decide +kernel
theorem dX0_read_3 : decode cX0_read 3 = .ok (.invokestatic 36, 3) := by decide +kernel
theorem dX0_read_6 : decode cX0_read 6 = .ok (.putfield 40, 3) := by decide +kernel
theorem dX0_read_9 : decode cX0_read 9 = .ok (.iconst 0, 1) := by decide +kernel
theorem dX0_read_10 : decode cX0_read 10 = .ok (.istore_n 3, 1) := by decide +kernel
theorem dX0_read_11 : decode cX0_read 11 = .ok (.iload_n 3, 1) := by decide +kernel
theorem dX0_read_12 : decode cX0_read 12 = .ok (.aload_n 0, 1) := by decide +kernel
theorem dX0_read_13 : decode cX0_read 13 = .ok (.getfield 40, 3) := by decide +kernel
theorem dX0_read_16 : decode cX0_read 16 = .ok (.if_icmp .ge 21, 3) := by decide +kernel
theorem dX0_read_19 : decode cX0_read 19 = .ok (.aload_n 0, 1) := by decide +kernel
theorem dX0_read_20 : decode cX0_read 20 = .ok (.getfield 9, 3) := by decide +kernel
theorem dX0_read_23 : decode cX0_read 23 = .ok (.iload_n 3, 1) := by decide +kernel
theorem dX0_read_24 : decode cX0_read 24 = .ok (.aload_n 1, 1) := by decide +kernel
theorem dX0_read_25 : decode cX0_read 25 = .ok (.iload_n 2, 1) := by decide +kernel
theorem dX0_read_26 : decode cX0_read 26 = .ok (.iload_n 3, 1) := by decide +kernel
theorem dX0_read_27 : decode cX0_read 27 = .ok (.invokestatic 41, 3) := by decide +kernel
theorem dX0_read_30 : decode cX0_read 30 = .ok (.iastore, 1) := by decide +kernel
theorem dX0_read_31 : decode cX0_read 31 = .ok (.iinc 3 1, 3) := by decide +kernel
theorem dX0_read_34 : decode cX0_read 34 = .ok (.goto (-23), 3) := by decide +kernel
theorem dX0_read_37 : decode cX0_read 37 = .ok (.return_, 1) := by decide +kernel
theorem dX0_countDifferent_0 : decode cX0_countDifferent 0 = .ok (.iconst 0, 1) := by decide +kernel
theorem dX0_countDifferent_1 : decode cX0_countDifferent 1 = .ok (.istore_n 2, 1) := by decide +kernel
theorem dX0_countDifferent_2 : decode cX0_countDifferent 2 = .ok (.iconst 0, 1) := by decide +kernel
theorem dX0_countDifferent_3 : decode cX0_countDifferent 3 = .ok (.istore_n 3, 1) := by decide +kernel
theorem dX0_countDifferent_4 : decode cX0_countDifferent 4 = .ok (.iload_n 3, 1) := by decide +kernel
theorem dX0_countDifferent_5 : decode cX0_countDifferent 5 = .ok (.iload_n 1, 1) := by decide +kernel
theorem dX0_countDifferent_6 : decode cX0_countDifferent 6 = .ok (.iadd, 1) := by decide +kernel
theorem dX0_countDifferent_7 : decode cX0_countDifferent 7 = .ok (.aload_n 0, 1) := by decide +kernel
theorem dX0_countDifferent_8 : decode cX0_countDifferent 8 = .ok (.getfield 40, 3) := by decide +kernel
theorem dX0_countDifferent_11 : decode cX0_countDifferent 11 = .ok (.if_icmp .gt 21, 3) := by decide +kernel
theorem dX0_countDifferent_14 : decode cX0_countDifferent 14 = .ok (.aload_n 0, 1) := by decide +kernel
theorem dX0_countDifferent_15 : decode cX0_countDifferent 15 = .ok (.iload_n 3, 1) := by decide +kernel
theorem dX0_countDifferent_16 : decode cX0_countDifferent 16 = .ok (.iload_n 1, 1) := by decide +kernel
theorem dX0_countDifferent_17 : decode cX0_countDifferent 17 = .ok (.invokevirtual 45, 3) := by decide +kernel
theorem dX0_countDifferent_20 : decode cX0_countDifferent 20 = .ok (.ifCond .ne 6, 3) := by decide +kernel
theorem dX0_countDifferent_23 : decode cX0_countDifferent 23 = .ok (.iinc 2 1, 3) := by decide +kernel
theorem dX0_countDifferent_26 : decode cX0_countDifferent 26 = .ok (.iinc 3 1, 3) := by decide +kernel
theorem dX0_countDifferent_29 : decode cX0_countDifferent 29 = .ok (.goto (-25), 3) := by decide +kernel
theorem dX0_countDifferent_32 : decode cX0_countDifferent 32 = .ok (.iload_n 2, 1) := by decide +kernel
theorem dX0_countDifferent_33 : decode cX0_countDifferent 33 = .ok (.ireturn, 1) := by decide +kernel
theorem dX0_cameBefore_0 : decode cX0_cameBefore 0 = .ok (.iconst 0, 1) := by decide +kernel
theorem dX0_cameBefore_1 : decode cX0_cameBefore 1 = .ok (.istore_n 3, 1) := by decide +kernel
theorem dX0_cameBefore_2 : decode cX0_cameBefore 2 = .ok (.iload_n 3, 1) := by decide +kernel
theorem dX0_cameBefore_3 : decode cX0_cameBefore 3 = .ok (.iload_n 1, 1) := by decide +kernel
theorem dX0_cameBefore_4 : decode cX0_cameBefore 4 = .ok (.if_icmp .ge 21, 3) := by decide +kernel
theorem dX0_cameBefore_7 : decode cX0_cameBefore 7 = .ok (.aload_n 0, 1) := by decide +kernel
theorem dX0_cameBefore_8 : decode cX0_cameBefore 8 = .ok (.iload_n 3, 1) := by decide +kernel
theorem dX0_cameBefore_9 : decode cX0_cameBefore 9 = .ok (.iload_n 1, 1) := by decide +kernel
theorem dX0_cameBefore_10 : decode cX0_cameBefore 10 = .ok (.invokevirtual 49, 3) := by decide +kernel
theorem dX0_cameBefore_13 : decode cX0_cameBefore 13 = .ok (.iload_n 2, 1) := by decide +kernel
theorem dX0_cameBefore_14 : decode cX0_cameBefore 14 = .ok (.if_icmp .lt 5, 3) := by decide +kernel
theorem dX0_cameBefore_17 : decode cX0_cameBefore 17 = .ok (.iconst 1, 1) := by decide +kernel
theorem dX0_cameBefore_18 : decode cX0_cameBefore 18 = .ok (.ireturn, 1) := by decide +kernel
theorem dX0_cameBefore_19 : decode cX0_cameBefore 19 = .ok (.iinc 3 1, 3) := by decide +kernel
theorem dX0_cameBefore_22 : decode cX0_cameBefore 22 = .ok (.goto (-20), 3) := by decide +kernel
theorem dX0_cameBefore_25 : decode cX0_cameBefore 25 = .ok (.iconst 0, 1) := by decide +kernel
theorem dX0_cameBefore_26 : decode cX0_cameBefore 26 = .ok (.ireturn, 1) := by decide +kernel
theorem dX0_sameRun_0 : decode cX0_sameRun 0 = .ok (.iconst 0, 1) := by decide +kernel
theorem dX0_sameRun_1 : decode cX0_sameRun 1 = .ok (.istore_n 3, 1) := by decide +kernel
theorem dX0_sameRun_2 : decode cX0_sameRun 2 = .ok (.iload_n 2, 1) := by decide +kernel
theorem dX0_sameRun_3 : decode cX0_sameRun 3 = .ok (.iload_n 3, 1) := by decide +kernel
theorem dX0_sameRun_4 : decode cX0_sameRun 4 = .ok (.iadd, 1) := by decide +kernel
theorem dX0_sameRun_5 : decode cX0_sameRun 5 = .ok (.aload_n 0, 1) := by decide +kernel
theorem dX0_sameRun_6 : decode cX0_sameRun 6 = .ok (.getfield 40, 3) := by decide +kernel
theorem dX0_sameRun_9 : decode cX0_sameRun 9 = .ok (.if_icmp .ge 28, 3) := by decide +kernel
theorem dX0_sameRun_12 : decode cX0_sameRun 12 = .ok (.aload_n 0, 1) := by decide +kernel
theorem dX0_sameRun_13 : decode cX0_sameRun 13 = .ok (.getfield 9, 3) := by decide +kernel
theorem dX0_sameRun_16 : decode cX0_sameRun 16 = .ok (.iload_n 1, 1) := by decide +kernel
theorem dX0_sameRun_17 : decode cX0_sameRun 17 = .ok (.iload_n 3, 1) := by decide +kernel
theorem dX0_sameRun_18 : decode cX0_sameRun 18 = .ok (.iadd, 1) := by decide +kernel
theorem dX0_sameRun_19 : decode cX0_sameRun 19 = .ok (.iaload, 1) := by decide +kernel
theorem dX0_sameRun_20 : decode cX0_sameRun 20 = .ok (.aload_n 0, 1) := by decide +kernel
theorem dX0_sameRun_21 : decode cX0_sameRun 21 = .ok (.getfield 9, 3) := by decide +kernel
theorem dX0_sameRun_24 : decode cX0_sameRun 24 = .ok (.iload_n 2, 1) := by decide +kernel
theorem dX0_sameRun_25 : decode cX0_sameRun 25 = .ok (.iload_n 3, 1) := by decide +kernel
theorem dX0_sameRun_26 : decode cX0_sameRun 26 = .ok (.iadd, 1) := by decide +kernel
theorem dX0_sameRun_27 : decode cX0_sameRun 27 = .ok (.iaload, 1) := by decide +kernel
theorem dX0_sameRun_28 : decode cX0_sameRun 28 = .ok (.if_icmp .ne 9, 3) := by decide +kernel
theorem dX0_sameRun_31 : decode cX0_sameRun 31 = .ok (.iinc 3 1, 3) := by decide +kernel
theorem dX0_sameRun_34 : decode cX0_sameRun 34 = .ok (.goto (-32), 3) := by decide +kernel
theorem dX0_sameRun_37 : decode cX0_sameRun 37 = .ok (.iload_n 3, 1) := by decide +kernel
theorem dX0_sameRun_38 : decode cX0_sameRun 38 = .ok (.ireturn, 1) := by decide +kernel
theorem dX0_repeatLength_0 : decode cX0_repeatLength 0 = .ok (.iload_n 1, 1) := by decide +kernel
theorem dX0_repeatLength_1 : decode cX0_repeatLength 1 = .ok (.ifCond .le 26, 3) := by decide +kernel
theorem dX0_repeatLength_4 : decode cX0_repeatLength 4 = .ok (.aload_n 0, 1) := by decide +kernel
theorem dX0_repeatLength_5 : decode cX0_repeatLength 5 = .ok (.getfield 9, 3) := by decide +kernel
theorem dX0_repeatLength_8 : decode cX0_repeatLength 8 = .ok (.iload_n 1, 1) := by decide +kernel
theorem dX0_repeatLength_9 : decode cX0_repeatLength 9 = .ok (.iconst 1, 1) := by decide +kernel
theorem dX0_repeatLength_10 : decode cX0_repeatLength 10 = .ok (.isub, 1) := by decide +kernel
theorem dX0_repeatLength_11 : decode cX0_repeatLength 11 = .ok (.iaload, 1) := by decide +kernel
theorem dX0_repeatLength_12 : decode cX0_repeatLength 12 = .ok (.aload_n 0, 1) := by decide +kernel
theorem dX0_repeatLength_13 : decode cX0_repeatLength 13 = .ok (.getfield 9, 3) := by decide +kernel
theorem dX0_repeatLength_16 : decode cX0_repeatLength 16 = .ok (.iload_n 2, 1) := by decide +kernel
theorem dX0_repeatLength_17 : decode cX0_repeatLength 17 = .ok (.iconst 1, 1) := by decide +kernel
theorem dX0_repeatLength_18 : decode cX0_repeatLength 18 = .ok (.isub, 1) := by decide +kernel
theorem dX0_repeatLength_19 : decode cX0_repeatLength 19 = .ok (.iaload, 1) := by decide +kernel
theorem dX0_repeatLength_20 : decode cX0_repeatLength 20 = .ok (.if_icmp .ne 7, 3) := by decide +kernel
theorem dX0_repeatLength_23 : decode cX0_repeatLength 23 = .ok (.iconst 1, 1) := by decide +kernel
theorem dX0_repeatLength_24 : decode cX0_repeatLength 24 = .ok (.goto 4, 3) := by decide +kernel
theorem dX0_repeatLength_27 : decode cX0_repeatLength 27 = .ok (.iconst 0, 1) := by decide +kernel
theorem dX0_repeatLength_28 : decode cX0_repeatLength 28 = .ok (.istore_n 3, 1) := by decide +kernel
theorem dX0_repeatLength_29 : decode cX0_repeatLength 29 = .ok (.iload_n 3, 1) := by decide +kernel
theorem dX0_repeatLength_30 : decode cX0_repeatLength 30 = .ok (.ifCond .eq 7, 3) := by decide +kernel
theorem dX0_repeatLength_33 : decode cX0_repeatLength 33 = .ok (.iconst 0, 1) := by decide +kernel
theorem dX0_repeatLength_34 : decode cX0_repeatLength 34 = .ok (.goto 9, 3) := by decide +kernel
theorem dX0_repeatLength_37 : decode cX0_repeatLength 37 = .ok (.aload_n 0, 1) := by decide +kernel
theorem dX0_repeatLength_38 : decode cX0_repeatLength 38 = .ok (.iload_n 1, 1) := by decide +kernel
theorem dX0_repeatLength_39 : decode cX0_repeatLength 39 = .ok (.iload_n 2, 1) := by decide +kernel
theorem dX0_repeatLength_40 : decode cX0_repeatLength 40 = .ok (.invokevirtual 49, 3) := by decide +kernel
theorem dX0_repeatLength_43 : decode cX0_repeatLength 43 = .ok (.ireturn, 1) := by decide +kernel
theorem dX0_leastPeriod_0 : decode cX0_leastPeriod 0 = .ok (.iconst 1, 1) := by decide +kernel
theorem dX0_leastPeriod_1 : decode cX0_leastPeriod 1 = .ok (.istore_n 1, 1) := by decide +kernel
theorem dX0_leastPeriod_2 : decode cX0_leastPeriod 2 = .ok (.iload_n 1, 1) := by decide +kernel
theorem dX0_leastPeriod_3 : decode cX0_leastPeriod 3 = .ok (.aload_n 0, 1) := by decide +kernel
theorem dX0_leastPeriod_4 : decode cX0_leastPeriod 4 = .ok (.getfield 40, 3) := by decide +kernel
theorem dX0_leastPeriod_7 : decode cX0_leastPeriod 7 = .ok (.if_icmp .ge 26, 3) := by decide +kernel
theorem dX0_leastPeriod_10 : decode cX0_leastPeriod 10 = .ok (.aload_n 0, 1) := by decide +kernel
theorem dX0_leastPeriod_11 : decode cX0_leastPeriod 11 = .ok (.iconst 0, 1) := by decide +kernel
theorem dX0_leastPeriod_12 : decode cX0_leastPeriod 12 = .ok (.iload_n 1, 1) := by decide +kernel
theorem dX0_leastPeriod_13 : decode cX0_leastPeriod 13 = .ok (.invokevirtual 49, 3) := by decide +kernel
theorem dX0_leastPeriod_16 : decode cX0_leastPeriod 16 = .ok (.aload_n 0, 1) := by decide +kernel
theorem dX0_leastPeriod_17 : decode cX0_leastPeriod 17 = .ok (.getfield 40, 3) := by decide +kernel
theorem dX0_leastPeriod_20 : decode cX0_leastPeriod 20 = .ok (.iload_n 1, 1) := by decide +kernel
theorem dX0_leastPeriod_21 : decode cX0_leastPeriod 21 = .ok (.isub, 1) := by decide +kernel
theorem dX0_leastPeriod_22 : decode cX0_leastPeriod 22 = .ok (.if_icmp .ne 5, 3) := by decide +kernel
theorem dX0_leastPeriod_25 : decode cX0_leastPeriod 25 = .ok (.iload_n 1, 1) := by decide +kernel
theorem dX0_leastPeriod_26 : decode cX0_leastPeriod 26 = .ok (.ireturn, 1) := by decide +kernel
theorem dX0_leastPeriod_27 : decode cX0_leastPeriod 27 = .ok (.iinc 1 1, 3) := by decide +kernel
theorem dX0_leastPeriod_30 : decode cX0_leastPeriod 30 = .ok (.goto (-28), 3) := by decide +kernel
theorem dX0_leastPeriod_33 : decode cX0_leastPeriod 33 = .ok (.aload_n 0, 1) := by decide +kernel
theorem dX0_leastPeriod_34 : decode cX0_leastPeriod 34 = .ok (.getfield 40, 3) := by decide +kernel
theorem dX0_leastPeriod_37 : decode cX0_leastPeriod 37 = .ok (.ireturn, 1) := by decide +kernel
theorem dX0_countSame_0 : decode cX0_countSame 0 = .ok (.iconst 0, 1) := by decide +kernel
theorem dX0_countSame_1 : decode cX0_countSame 1 = .ok (.istore 4, 2) := by decide +kernel
theorem dX0_countSame_3 : decode cX0_countSame 3 = .ok (.iconst 0, 1) := by decide +kernel
theorem dX0_countSame_4 : decode cX0_countSame 4 = .ok (.istore 5, 2) := by decide +kernel
theorem dX0_countSame_6 : decode cX0_countSame 6 = .ok (.iload 5, 2) := by decide +kernel
theorem dX0_countSame_8 : decode cX0_countSame 8 = .ok (.iload_n 3, 1) := by decide +kernel
theorem dX0_countSame_9 : decode cX0_countSame 9 = .ok (.if_icmp .ge 33, 3) := by decide +kernel
theorem dX0_countSame_12 : decode cX0_countSame 12 = .ok (.aload_n 0, 1) := by decide +kernel
theorem dX0_countSame_13 : decode cX0_countSame 13 = .ok (.getfield 9, 3) := by decide +kernel
theorem dX0_countSame_16 : decode cX0_countSame 16 = .ok (.iload_n 1, 1) := by decide +kernel
theorem dX0_countSame_17 : decode cX0_countSame 17 = .ok (.iload 5, 2) := by decide +kernel
theorem dX0_countSame_19 : decode cX0_countSame 19 = .ok (.iadd, 1) := by decide +kernel
theorem dX0_countSame_20 : decode cX0_countSame 20 = .ok (.iaload, 1) := by decide +kernel
theorem dX0_countSame_21 : decode cX0_countSame 21 = .ok (.aload_n 0, 1) := by decide +kernel
theorem dX0_countSame_22 : decode cX0_countSame 22 = .ok (.getfield 9, 3) := by decide +kernel
theorem dX0_countSame_25 : decode cX0_countSame 25 = .ok (.iload_n 2, 1) := by decide +kernel
theorem dX0_countSame_26 : decode cX0_countSame 26 = .ok (.iload 5, 2) := by decide +kernel
theorem dX0_countSame_28 : decode cX0_countSame 28 = .ok (.iadd, 1) := by decide +kernel
theorem dX0_countSame_29 : decode cX0_countSame 29 = .ok (.iaload, 1) := by decide +kernel
theorem dX0_countSame_30 : decode cX0_countSame 30 = .ok (.if_icmp .ne 6, 3) := by decide +kernel
theorem dX0_countSame_33 : decode cX0_countSame 33 = .ok (.iinc 4 1, 3) := by decide +kernel
theorem dX0_countSame_36 : decode cX0_countSame 36 = .ok (.iinc 5 1, 3) := by decide +kernel
theorem dX0_countSame_39 : decode cX0_countSame 39 = .ok (.goto (-33), 3) := by decide +kernel
theorem dX0_countSame_42 : decode cX0_countSame 42 = .ok (.iload 4, 2) := by decide +kernel
theorem dX0_countSame_44 : decode cX0_countSame 44 = .ok (.ireturn, 1) := by decide +kernel
theorem dX1_init_0 : decode cX1_init 0 = .ok (.aload_n 0, 1) := by decide +kernel
theorem dX1_init_1 : decode cX1_init 1 = .ok (.invokespecial 3, 3) := by decide +kernel
theorem dX1_init_4 : decode cX1_init 4 = .ok (.aload_n 0, 1) := by decide +kernel
theorem dX1_init_5 : decode cX1_init 5 = .ok (.bipush 60, 2) := by decide +kernel
theorem dX1_init_7 : decode cX1_init 7 = .ok (.newarray .int, 2) := by decide +kernel
theorem dX1_init_9 : decode cX1_init 9 = .ok (.putfield 9, 3) := by decide +kernel
theorem dX1_init_12 : decode cX1_init 12 = .ok (.aload_n 0, 1) := by decide +kernel
theorem dX1_init_13 : decode cX1_init 13 = .ok (.bipush 60, 2) := by decide +kernel
theorem dX1_init_15 : decode cX1_init 15 = .ok (.newarray .int, 2) := by decide +kernel
theorem dX1_init_17 : decode cX1_init 17 = .ok (.putfield 15, 3) := by decide +kernel
theorem dX1_init_20 : decode cX1_init 20 = .ok (.return_, 1) := by decide +kernel
theorem dX1_append_0 : decode cX1_append 0 = .ok (.aload_n 0, 1) := by decide +kernel
theorem dX1_append_1 : decode cX1_append 1 = .ok (.getfield 18, 3) := by decide +kernel
theorem dX1_append_4 : decode cX1_append 4 = .ok (.bipush 60, 2) := by decide +kernel
theorem dX1_append_6 : decode cX1_append 6 = .ok (.if_icmp .ge 33, 3) := by decide +kernel
theorem dX1_append_9 : decode cX1_append 9 = .ok (.aload_n 0, 1) := by decide +kernel
theorem dX1_append_10 : decode cX1_append 10 = .ok (.getfield 9, 3) := by decide +kernel
theorem dX1_append_13 : decode cX1_append 13 = .ok (.aload_n 0, 1) := by decide +kernel
theorem dX1_append_14 : decode cX1_append 14 = .ok (.getfield 18, 3) := by decide +kernel
theorem dX1_append_17 : decode cX1_append 17 = .ok (.iload_n 1, 1) := by decide +kernel
theorem dX1_append_18 : decode cX1_append 18 = .ok (.iastore, 1) := by decide +kernel
theorem dX1_append_19 : decode cX1_append 19 = .ok (.aload_n 0, 1) := by decide +kernel
theorem dX1_append_20 : decode cX1_append 20 = .ok (.getfield 15, 3) := by decide +kernel
theorem dX1_append_23 : decode cX1_append 23 = .ok (.aload_n 0, 1) := by decide +kernel
theorem dX1_append_24 : decode cX1_append 24 = .ok (.getfield 18, 3) := by decide +kernel
theorem dX1_append_27 : decode cX1_append 27 = .ok (.iload_n 2, 1) := by decide +kernel
theorem dX1_append_28 : decode cX1_append 28 = .ok (.iastore, 1) := by decide +kernel
theorem dX1_append_29 : decode cX1_append 29 = .ok (.aload_n 0, 1) := by decide +kernel
theorem dX1_append_30 : decode cX1_append 30 = .ok (.dup, 1) := by decide +kernel
theorem dX1_append_31 : decode cX1_append 31 = .ok (.getfield 18, 3) := by decide +kernel
theorem dX1_append_34 : decode cX1_append 34 = .ok (.iconst 1, 1) := by decide +kernel
theorem dX1_append_35 : decode cX1_append 35 = .ok (.iadd, 1) := by decide +kernel
theorem dX1_append_36 : decode cX1_append 36 = .ok (.putfield 18, 3) := by decide +kernel
theorem dX1_append_39 : decode cX1_append 39 = .ok (.return_, 1) := by decide +kernel
theorem dX1_stepTo_0 : decode cX1_stepTo 0 = .ok (.aload_n 0, 1) := by decide +kernel
theorem dX1_stepTo_1 : decode cX1_stepTo 1 = .ok (.getfield 9, 3) := by decide +kernel
theorem dX1_stepTo_4 : decode cX1_stepTo 4 = .ok (.iload_n 1, 1) := by decide +kernel
theorem dX1_stepTo_5 : decode cX1_stepTo 5 = .ok (.iaload, 1) := by decide +kernel
theorem dX1_stepTo_6 : decode cX1_stepTo 6 = .ok (.aload_n 0, 1) := by decide +kernel
theorem dX1_stepTo_7 : decode cX1_stepTo 7 = .ok (.getfield 9, 3) := by decide +kernel
theorem dX1_stepTo_10 : decode cX1_stepTo 10 = .ok (.iload_n 1, 1) := by decide +kernel
theorem dX1_stepTo_11 : decode cX1_stepTo 11 = .ok (.iconst 1, 1) := by decide +kernel
theorem dX1_stepTo_12 : decode cX1_stepTo 12 = .ok (.isub, 1) := by decide +kernel
theorem dX1_stepTo_13 : decode cX1_stepTo 13 = .ok (.iaload, 1) := by decide +kernel
theorem dX1_stepTo_14 : decode cX1_stepTo 14 = .ok (.isub, 1) := by decide +kernel
theorem dX1_stepTo_15 : decode cX1_stepTo 15 = .ok (.ireturn, 1) := by decide +kernel
theorem dX2_init_0 : decode cX2_init 0 = .ok (.aload_n 0, 1) := by decide +kernel
theorem dX2_init_1 : decode cX2_init 1 = .ok (.invokespecial 3, 3) := by decide +kernel
theorem dX2_init_4 : decode cX2_init 4 = .ok (.aload_n 0, 1) := by decide +kernel
theorem dX2_init_5 : decode cX2_init 5 = .ok (.bipush 60, 2) := by decide +kernel
theorem dX2_init_7 : decode cX2_init 7 = .ok (.newarray .int, 2) := by decide +kernel
theorem dX2_init_9 : decode cX2_init 9 = .ok (.putfield 9, 3) := by decide +kernel
theorem dX2_init_12 : decode cX2_init 12 = .ok (.aload_n 0, 1) := by decide +kernel
theorem dX2_init_13 : decode cX2_init 13 = .ok (.bipush 61, 2) := by decide +kernel
theorem dX2_init_15 : decode cX2_init 15 = .ok (.newarray .int, 2) := by decide +kernel
theorem dX2_init_17 : decode cX2_init 17 = .ok (.putfield 15, 3) := by decide +kernel
theorem dX2_init_20 : decode cX2_init 20 = .ok (.aload_n 0, 1) := by decide +kernel
theorem dX2_init_21 : decode cX2_init 21 = .ok (.bipush 61, 2) := by decide +kernel
theorem dX2_init_23 : decode cX2_init 23 = .ok (.newarray .int, 2) := by decide +kernel
theorem dX2_init_25 : decode cX2_init 25 = .ok (.putfield 18, 3) := by decide +kernel
theorem dX2_init_28 : decode cX2_init 28 = .ok (.aload_n 0, 1) := by decide +kernel
theorem dX2_init_29 : decode cX2_init 29 = .ok (.bipush 61, 2) := by decide +kernel
theorem dX2_init_31 : decode cX2_init 31 = .ok (.newarray .int, 2) := by decide +kernel
theorem dX2_init_33 : decode cX2_init 33 = .ok (.putfield 21, 3) := by decide +kernel
theorem dX2_init_36 : decode cX2_init 36 = .ok (.return_, 1) := by decide +kernel
theorem dX2_part_0 : decode cX2_part 0 = .ok (.aload_n 0, 1) := by decide +kernel
theorem dX2_part_1 : decode cX2_part 1 = .ok (.getfield 15, 3) := by decide +kernel
theorem dX2_part_4 : decode cX2_part 4 = .ok (.aload_n 1, 1) := by decide +kernel
theorem dX2_part_5 : decode cX2_part 5 = .ok (.getfield 24, 3) := by decide +kernel
theorem dX2_part_8 : decode cX2_part 8 = .ok (.iconst 0, 1) := by decide +kernel
theorem dX2_part_9 : decode cX2_part 9 = .ok (.iastore, 1) := by decide +kernel
theorem dX2_part_10 : decode cX2_part 10 = .ok (.aload_n 0, 1) := by decide +kernel
theorem dX2_part_11 : decode cX2_part 11 = .ok (.getfield 18, 3) := by decide +kernel
theorem dX2_part_14 : decode cX2_part 14 = .ok (.aload_n 1, 1) := by decide +kernel
theorem dX2_part_15 : decode cX2_part 15 = .ok (.getfield 24, 3) := by decide +kernel
theorem dX2_part_18 : decode cX2_part 18 = .ok (.iconst 0, 1) := by decide +kernel
theorem dX2_part_19 : decode cX2_part 19 = .ok (.iastore, 1) := by decide +kernel
theorem dX2_part_20 : decode cX2_part 20 = .ok (.aload_n 1, 1) := by decide +kernel
theorem dX2_part_21 : decode cX2_part 21 = .ok (.getfield 24, 3) := by decide +kernel
theorem dX2_part_24 : decode cX2_part 24 = .ok (.iconst 1, 1) := by decide +kernel
theorem dX2_part_25 : decode cX2_part 25 = .ok (.isub, 1) := by decide +kernel
theorem dX2_part_26 : decode cX2_part 26 = .ok (.istore 4, 2) := by decide +kernel
theorem dX2_part_28 : decode cX2_part 28 = .ok (.iload 4, 2) := by decide +kernel
theorem dX2_part_30 : decode cX2_part 30 = .ok (.ifCond .lt 18, 3) := by decide +kernel
theorem dX2_part_33 : decode cX2_part 33 = .ok (.aload_n 0, 1) := by decide +kernel
theorem dX2_part_34 : decode cX2_part 34 = .ok (.aload_n 1, 1) := by decide +kernel
theorem dX2_part_35 : decode cX2_part 35 = .ok (.iload 4, 2) := by decide +kernel
theorem dX2_part_37 : decode cX2_part 37 = .ok (.iload_n 2, 1) := by decide +kernel
theorem dX2_part_38 : decode cX2_part 38 = .ok (.iload_n 3, 1) := by decide +kernel
theorem dX2_part_39 : decode cX2_part 39 = .ok (.invokevirtual 30, 3) := by decide +kernel
theorem dX2_part_42 : decode cX2_part 42 = .ok (.iinc 4 (-1), 3) := by decide +kernel
theorem dX2_part_45 : decode cX2_part 45 = .ok (.goto (-17), 3) := by decide +kernel
theorem dX2_part_48 : decode cX2_part 48 = .ok (.aload_n 0, 1) := by decide +kernel
theorem dX2_part_49 : decode cX2_part 49 = .ok (.aload_n 0, 1) := by decide +kernel
theorem dX2_part_50 : decode cX2_part 50 = .ok (.getfield 15, 3) := by decide +kernel
theorem dX2_part_53 : decode cX2_part 53 = .ok (.iconst 0, 1) := by decide +kernel
theorem dX2_part_54 : decode cX2_part 54 = .ok (.iaload, 1) := by decide +kernel
theorem dX2_part_55 : decode cX2_part 55 = .ok (.putfield 34, 3) := by decide +kernel
theorem dX2_part_58 : decode cX2_part 58 = .ok (.aload_n 0, 1) := by decide +kernel
theorem dX2_part_59 : decode cX2_part 59 = .ok (.aload_n 0, 1) := by decide +kernel
theorem dX2_part_60 : decode cX2_part 60 = .ok (.getfield 18, 3) := by decide +kernel
theorem dX2_part_63 : decode cX2_part 63 = .ok (.iconst 0, 1) := by decide +kernel
theorem dX2_part_64 : decode cX2_part 64 = .ok (.iaload, 1) := by decide +kernel
theorem dX2_part_65 : decode cX2_part 65 = .ok (.putfield 37, 3) := by decide +kernel
theorem dX2_part_68 : decode cX2_part 68 = .ok (.iconst 0, 1) := by decide +kernel
theorem dX2_part_69 : decode cX2_part 69 = .ok (.istore 4, 2) := by decide +kernel
theorem dX2_part_71 : decode cX2_part 71 = .ok (.iconst 0, 1) := by decide +kernel
theorem dX2_part_72 : decode cX2_part 72 = .ok (.istore 5, 2) := by decide +kernel
theorem dX2_part_74 : decode cX2_part 74 = .ok (.iload 5, 2) := by decide +kernel
theorem dX2_part_76 : decode cX2_part 76 = .ok (.aload_n 0, 1) := by decide +kernel
theorem dX2_part_77 : decode cX2_part 77 = .ok (.getfield 37, 3) := by decide +kernel
theorem dX2_part_80 : decode cX2_part 80 = .ok (.if_icmp .ge 27, 3) := by decide +kernel
theorem dX2_part_83 : decode cX2_part 83 = .ok (.aload_n 0, 1) := by decide +kernel
theorem dX2_part_84 : decode cX2_part 84 = .ok (.getfield 9, 3) := by decide +kernel
theorem dX2_part_87 : decode cX2_part 87 = .ok (.iload 5, 2) := by decide +kernel
theorem dX2_part_89 : decode cX2_part 89 = .ok (.iload 4, 2) := by decide +kernel
theorem dX2_part_91 : decode cX2_part 91 = .ok (.iastore, 1) := by decide +kernel
theorem dX2_part_92 : decode cX2_part 92 = .ok (.aload_n 0, 1) := by decide +kernel
theorem dX2_part_93 : decode cX2_part 93 = .ok (.getfield 21, 3) := by decide +kernel
theorem dX2_part_96 : decode cX2_part 96 = .ok (.iload 4, 2) := by decide +kernel
theorem dX2_part_98 : decode cX2_part 98 = .ok (.iaload, 1) := by decide +kernel
theorem dX2_part_99 : decode cX2_part 99 = .ok (.istore 4, 2) := by decide +kernel
theorem dX2_part_101 : decode cX2_part 101 = .ok (.iinc 5 1, 3) := by decide +kernel
theorem dX2_part_104 : decode cX2_part 104 = .ok (.goto (-30), 3) := by decide +kernel
theorem dX2_part_107 : decode cX2_part 107 = .ok (.return_, 1) := by decide +kernel
theorem dX2_weighFrom_0 : decode cX2_weighFrom 0 = .ok (.aload_n 1, 1) := by decide +kernel
theorem dX2_weighFrom_1 : decode cX2_weighFrom 1 = .ok (.getfield 38, 3) := by decide +kernel
theorem dX2_weighFrom_4 : decode cX2_weighFrom 4 = .ok (.iload_n 2, 1) := by decide +kernel
theorem dX2_weighFrom_5 : decode cX2_weighFrom 5 = .ok (.iaload, 1) := by decide +kernel
theorem dX2_weighFrom_6 : decode cX2_weighFrom 6 = .ok (.istore 5, 2) := by decide +kernel
theorem dX2_weighFrom_8 : decode cX2_weighFrom 8 = .ok (.iload 5, 2) := by decide +kernel
theorem dX2_weighFrom_10 : decode cX2_weighFrom 10 = .ok (.istore 6, 2) := by decide +kernel
theorem dX2_weighFrom_12 : decode cX2_weighFrom 12 = .ok (.iload_n 2, 1) := by decide +kernel
theorem dX2_weighFrom_13 : decode cX2_weighFrom 13 = .ok (.iconst 1, 1) := by decide +kernel
theorem dX2_weighFrom_14 : decode cX2_weighFrom 14 = .ok (.iadd, 1) := by decide +kernel
theorem dX2_weighFrom_15 : decode cX2_weighFrom 15 = .ok (.istore 7, 2) := by decide +kernel
theorem dX2_weighFrom_17 : decode cX2_weighFrom 17 = .ok (.iload 7, 2) := by decide +kernel
theorem dX2_weighFrom_19 : decode cX2_weighFrom 19 = .ok (.aload_n 1, 1) := by decide +kernel
theorem dX2_weighFrom_20 : decode cX2_weighFrom 20 = .ok (.getfield 24, 3) := by decide +kernel
theorem dX2_weighFrom_23 : decode cX2_weighFrom 23 = .ok (.if_icmp .gt 116, 3) := by decide +kernel
theorem dX2_weighFrom_26 : decode cX2_weighFrom 26 = .ok (.iload 5, 2) := by decide +kernel
theorem dX2_weighFrom_28 : decode cX2_weighFrom 28 = .ok (.aload_n 1, 1) := by decide +kernel
theorem dX2_weighFrom_29 : decode cX2_weighFrom 29 = .ok (.getfield 38, 3) := by decide +kernel
theorem dX2_weighFrom_32 : decode cX2_weighFrom 32 = .ok (.iload 7, 2) := by decide +kernel
theorem dX2_weighFrom_34 : decode cX2_weighFrom 34 = .ok (.iconst 1, 1) := by decide +kernel
theorem dX2_weighFrom_35 : decode cX2_weighFrom 35 = .ok (.isub, 1) := by decide +kernel
theorem dX2_weighFrom_36 : decode cX2_weighFrom 36 = .ok (.iaload, 1) := by decide +kernel
theorem dX2_weighFrom_37 : decode cX2_weighFrom 37 = .ok (.invokestatic 41, 3) := by decide +kernel
theorem dX2_weighFrom_40 : decode cX2_weighFrom 40 = .ok (.istore 5, 2) := by decide +kernel
theorem dX2_weighFrom_42 : decode cX2_weighFrom 42 = .ok (.iload 6, 2) := by decide +kernel
theorem dX2_weighFrom_44 : decode cX2_weighFrom 44 = .ok (.aload_n 1, 1) := by decide +kernel
theorem dX2_weighFrom_45 : decode cX2_weighFrom 45 = .ok (.getfield 38, 3) := by decide +kernel
theorem dX2_weighFrom_48 : decode cX2_weighFrom 48 = .ok (.iload 7, 2) := by decide +kernel
theorem dX2_weighFrom_50 : decode cX2_weighFrom 50 = .ok (.iconst 1, 1) := by decide +kernel
theorem dX2_weighFrom_51 : decode cX2_weighFrom 51 = .ok (.isub, 1) := by decide +kernel
theorem dX2_weighFrom_52 : decode cX2_weighFrom 52 = .ok (.iaload, 1) := by decide +kernel
theorem dX2_weighFrom_53 : decode cX2_weighFrom 53 = .ok (.invokestatic 47, 3) := by decide +kernel
theorem dX2_weighFrom_56 : decode cX2_weighFrom 56 = .ok (.istore 6, 2) := by decide +kernel
theorem dX2_weighFrom_58 : decode cX2_weighFrom 58 = .ok (.iload_n 3, 1) := by decide +kernel
theorem dX2_weighFrom_59 : decode cX2_weighFrom 59 = .ok (.iload 4, 2) := by decide +kernel
theorem dX2_weighFrom_61 : decode cX2_weighFrom 61 = .ok (.iload 5, 2) := by decide +kernel
theorem dX2_weighFrom_63 : decode cX2_weighFrom 63 = .ok (.iload 6, 2) := by decide +kernel
theorem dX2_weighFrom_65 : decode cX2_weighFrom 65 = .ok (.isub, 1) := by decide +kernel
theorem dX2_weighFrom_66 : decode cX2_weighFrom 66 = .ok (.imul, 1) := by decide +kernel
theorem dX2_weighFrom_67 : decode cX2_weighFrom 67 = .ok (.iadd, 1) := by decide +kernel
theorem dX2_weighFrom_68 : decode cX2_weighFrom 68 = .ok (.aload_n 0, 1) := by decide +kernel
theorem dX2_weighFrom_69 : decode cX2_weighFrom 69 = .ok (.getfield 15, 3) := by decide +kernel
theorem dX2_weighFrom_72 : decode cX2_weighFrom 72 = .ok (.iload 7, 2) := by decide +kernel
theorem dX2_weighFrom_74 : decode cX2_weighFrom 74 = .ok (.iaload, 1) := by decide +kernel
theorem dX2_weighFrom_75 : decode cX2_weighFrom 75 = .ok (.iadd, 1) := by decide +kernel
theorem dX2_weighFrom_76 : decode cX2_weighFrom 76 = .ok (.istore 8, 2) := by decide +kernel
theorem dX2_weighFrom_78 : decode cX2_weighFrom 78 = .ok (.iconst 1, 1) := by decide +kernel
theorem dX2_weighFrom_79 : decode cX2_weighFrom 79 = .ok (.aload_n 0, 1) := by decide +kernel
theorem dX2_weighFrom_80 : decode cX2_weighFrom 80 = .ok (.getfield 18, 3) := by decide +kernel
theorem dX2_weighFrom_83 : decode cX2_weighFrom 83 = .ok (.iload 7, 2) := by decide +kernel
theorem dX2_weighFrom_85 : decode cX2_weighFrom 85 = .ok (.iaload, 1) := by decide +kernel
theorem dX2_weighFrom_86 : decode cX2_weighFrom 86 = .ok (.iadd, 1) := by decide +kernel
theorem dX2_weighFrom_87 : decode cX2_weighFrom 87 = .ok (.istore 9, 2) := by decide +kernel
theorem dX2_weighFrom_89 : decode cX2_weighFrom 89 = .ok (.iload 7, 2) := by decide +kernel
theorem dX2_weighFrom_91 : decode cX2_weighFrom 91 = .ok (.iload_n 2, 1) := by decide +kernel
theorem dX2_weighFrom_92 : decode cX2_weighFrom 92 = .ok (.iconst 1, 1) := by decide +kernel
theorem dX2_weighFrom_93 : decode cX2_weighFrom 93 = .ok (.iadd, 1) := by decide +kernel
theorem dX2_weighFrom_94 : decode cX2_weighFrom 94 = .ok (.if_icmp .eq 15, 3) := by decide +kernel
theorem dX2_weighFrom_97 : decode cX2_weighFrom 97 = .ok (.aload_n 0, 1) := by decide +kernel
theorem dX2_weighFrom_98 : decode cX2_weighFrom 98 = .ok (.iload_n 2, 1) := by decide +kernel
theorem dX2_weighFrom_99 : decode cX2_weighFrom 99 = .ok (.iload 8, 2) := by decide +kernel
theorem dX2_weighFrom_101 : decode cX2_weighFrom 101 = .ok (.iload 9, 2) := by decide +kernel
theorem dX2_weighFrom_103 : decode cX2_weighFrom 103 = .ok (.invokevirtual 50, 3) := by decide +kernel
theorem dX2_weighFrom_106 : decode cX2_weighFrom 106 = .ok (.ifCond .eq 27, 3) := by decide +kernel
theorem dX2_weighFrom_109 : decode cX2_weighFrom 109 = .ok (.aload_n 0, 1) := by decide +kernel
theorem dX2_weighFrom_110 : decode cX2_weighFrom 110 = .ok (.getfield 15, 3) := by decide +kernel
theorem dX2_weighFrom_113 : decode cX2_weighFrom 113 = .ok (.iload_n 2, 1) := by decide +kernel
theorem dX2_weighFrom_114 : decode cX2_weighFrom 114 = .ok (.iload 8, 2) := by decide +kernel
theorem dX2_weighFrom_116 : decode cX2_weighFrom 116 = .ok (.iastore, 1) := by decide +kernel
theorem dX2_weighFrom_117 : decode cX2_weighFrom 117 = .ok (.aload_n 0, 1) := by decide +kernel
theorem dX2_weighFrom_118 : decode cX2_weighFrom 118 = .ok (.getfield 18, 3) := by decide +kernel
theorem dX2_weighFrom_121 : decode cX2_weighFrom 121 = .ok (.iload_n 2, 1) := by decide +kernel
theorem dX2_weighFrom_122 : decode cX2_weighFrom 122 = .ok (.iload 9, 2) := by decide +kernel
theorem dX2_weighFrom_124 : decode cX2_weighFrom 124 = .ok (.iastore, 1) := by decide +kernel
theorem dX2_weighFrom_125 : decode cX2_weighFrom 125 = .ok (.aload_n 0, 1) := by decide +kernel
theorem dX2_weighFrom_126 : decode cX2_weighFrom 126 = .ok (.getfield 21, 3) := by decide +kernel
theorem dX2_weighFrom_129 : decode cX2_weighFrom 129 = .ok (.iload_n 2, 1) := by decide +kernel
theorem dX2_weighFrom_130 : decode cX2_weighFrom 130 = .ok (.iload 7, 2) := by decide +kernel
theorem dX2_weighFrom_132 : decode cX2_weighFrom 132 = .ok (.iastore, 1) := by decide +kernel
theorem dX2_weighFrom_133 : decode cX2_weighFrom 133 = .ok (.iinc 7 1, 3) := by decide +kernel
theorem dX2_weighFrom_136 : decode cX2_weighFrom 136 = .ok (.goto (-119), 3) := by decide +kernel
theorem dX2_weighFrom_139 : decode cX2_weighFrom 139 = .ok (.return_, 1) := by decide +kernel
theorem dX2_isBetter_0 : decode cX2_isBetter 0 = .ok (.iload_n 2, 1) := by decide +kernel
theorem dX2_isBetter_1 : decode cX2_isBetter 1 = .ok (.aload_n 0, 1) := by decide +kernel
theorem dX2_isBetter_2 : decode cX2_isBetter 2 = .ok (.getfield 15, 3) := by decide +kernel
theorem dX2_isBetter_5 : decode cX2_isBetter 5 = .ok (.iload_n 1, 1) := by decide +kernel
theorem dX2_isBetter_6 : decode cX2_isBetter 6 = .ok (.iaload, 1) := by decide +kernel
theorem dX2_isBetter_7 : decode cX2_isBetter 7 = .ok (.if_icmp .lt 23, 3) := by decide +kernel
theorem dX2_isBetter_10 : decode cX2_isBetter 10 = .ok (.iload_n 2, 1) := by decide +kernel
theorem dX2_isBetter_11 : decode cX2_isBetter 11 = .ok (.aload_n 0, 1) := by decide +kernel
theorem dX2_isBetter_12 : decode cX2_isBetter 12 = .ok (.getfield 15, 3) := by decide +kernel
theorem dX2_isBetter_15 : decode cX2_isBetter 15 = .ok (.iload_n 1, 1) := by decide +kernel
theorem dX2_isBetter_16 : decode cX2_isBetter 16 = .ok (.iaload, 1) := by decide +kernel
theorem dX2_isBetter_17 : decode cX2_isBetter 17 = .ok (.if_icmp .ne 17, 3) := by decide +kernel
theorem dX2_isBetter_20 : decode cX2_isBetter 20 = .ok (.iload_n 3, 1) := by decide +kernel
theorem dX2_isBetter_21 : decode cX2_isBetter 21 = .ok (.aload_n 0, 1) := by decide +kernel
theorem dX2_isBetter_22 : decode cX2_isBetter 22 = .ok (.getfield 18, 3) := by decide +kernel
theorem dX2_isBetter_25 : decode cX2_isBetter 25 = .ok (.iload_n 1, 1) := by decide +kernel
theorem dX2_isBetter_26 : decode cX2_isBetter 26 = .ok (.iaload, 1) := by decide +kernel
theorem dX2_isBetter_27 : decode cX2_isBetter 27 = .ok (.if_icmp .ge 7, 3) := by decide +kernel
theorem dX2_isBetter_30 : decode cX2_isBetter 30 = .ok (.iconst 1, 1) := by decide +kernel
theorem dX2_isBetter_31 : decode cX2_isBetter 31 = .ok (.goto 4, 3) := by decide +kernel
theorem dX2_isBetter_34 : decode cX2_isBetter 34 = .ok (.iconst 0, 1) := by decide +kernel
theorem dX2_isBetter_35 : decode cX2_isBetter 35 = .ok (.ireturn, 1) := by decide +kernel
theorem dX3_init_0 : decode cX3_init 0 = .ok (.aload_n 0, 1) := by decide +kernel
theorem dX3_init_1 : decode cX3_init 1 = .ok (.invokespecial 3, 3) := by decide +kernel
theorem dX3_init_4 : decode cX3_init 4 = .ok (.aload_n 0, 1) := by decide +kernel
theorem dX3_init_5 : decode cX3_init 5 = .ok (.bipush 60, 2) := by decide +kernel
theorem dX3_init_7 : decode cX3_init 7 = .ok (.newarray .int, 2) := by decide +kernel
theorem dX3_init_9 : decode cX3_init 9 = .ok (.putfield 9, 3) := by decide +kernel
theorem dX3_init_12 : decode cX3_init 12 = .ok (.return_, 1) := by decide +kernel
theorem dX3_append_0 : decode cX3_append 0 = .ok (.aload_n 0, 1) := by decide +kernel
theorem dX3_append_1 : decode cX3_append 1 = .ok (.getfield 15, 3) := by decide +kernel
theorem dX3_append_4 : decode cX3_append 4 = .ok (.bipush 60, 2) := by decide +kernel
theorem dX3_append_6 : decode cX3_append 6 = .ok (.if_icmp .ge 23, 3) := by decide +kernel
theorem dX3_append_9 : decode cX3_append 9 = .ok (.aload_n 0, 1) := by decide +kernel
theorem dX3_append_10 : decode cX3_append 10 = .ok (.getfield 9, 3) := by decide +kernel
theorem dX3_append_13 : decode cX3_append 13 = .ok (.aload_n 0, 1) := by decide +kernel
theorem dX3_append_14 : decode cX3_append 14 = .ok (.getfield 15, 3) := by decide +kernel
theorem dX3_append_17 : decode cX3_append 17 = .ok (.iload_n 1, 1) := by decide +kernel
theorem dX3_append_18 : decode cX3_append 18 = .ok (.iastore, 1) := by decide +kernel
theorem dX3_append_19 : decode cX3_append 19 = .ok (.aload_n 0, 1) := by decide +kernel
theorem dX3_append_20 : decode cX3_append 20 = .ok (.dup, 1) := by decide +kernel
theorem dX3_append_21 : decode cX3_append 21 = .ok (.getfield 15, 3) := by decide +kernel
theorem dX3_append_24 : decode cX3_append 24 = .ok (.iconst 1, 1) := by decide +kernel
theorem dX3_append_25 : decode cX3_append 25 = .ok (.iadd, 1) := by decide +kernel
theorem dX3_append_26 : decode cX3_append 26 = .ok (.putfield 15, 3) := by decide +kernel
theorem dX3_append_29 : decode cX3_append 29 = .ok (.return_, 1) := by decide +kernel
theorem dX4_init_0 : decode cX4_init 0 = .ok (.aload_n 0, 1) := by decide +kernel
theorem dX4_init_1 : decode cX4_init 1 = .ok (.invokespecial 3, 3) := by decide +kernel
theorem dX4_init_4 : decode cX4_init 4 = .ok (.aload_n 0, 1) := by decide +kernel
theorem dX4_init_5 : decode cX4_init 5 = .ok (.sipush 2700, 3) := by decide +kernel
theorem dX4_init_8 : decode cX4_init 8 = .ok (.newarray .int, 2) := by decide +kernel
theorem dX4_init_10 : decode cX4_init 10 = .ok (.putfield 11, 3) := by decide +kernel
theorem dX4_init_13 : decode cX4_init 13 = .ok (.aload_n 0, 1) := by decide +kernel
theorem dX4_init_14 : decode cX4_init 14 = .ok (.bipush 60, 2) := by decide +kernel
theorem dX4_init_16 : decode cX4_init 16 = .ok (.newarray .int, 2) := by decide +kernel
theorem dX4_init_18 : decode cX4_init 18 = .ok (.putfield 15, 3) := by decide +kernel
theorem dX4_init_21 : decode cX4_init 21 = .ok (.return_, 1) := by decide +kernel
theorem dX4_partOf_0 : decode cX4_partOf 0 = .ok (.aload_n 0, 1) := by decide +kernel
theorem dX4_partOf_1 : decode cX4_partOf 1 = .ok (.getfield 11, 3) := by decide +kernel
theorem dX4_partOf_4 : decode cX4_partOf 4 = .ok (.iconst 3, 1) := by decide +kernel
theorem dX4_partOf_5 : decode cX4_partOf 5 = .ok (.iload_n 1, 1) := by decide +kernel
theorem dX4_partOf_6 : decode cX4_partOf 6 = .ok (.imul, 1) := by decide +kernel
theorem dX4_partOf_7 : decode cX4_partOf 7 = .ok (.iload_n 2, 1) := by decide +kernel
theorem dX4_partOf_8 : decode cX4_partOf 8 = .ok (.iadd, 1) := by decide +kernel
theorem dX4_partOf_9 : decode cX4_partOf 9 = .ok (.iaload, 1) := by decide +kernel
theorem dX4_partOf_10 : decode cX4_partOf 10 = .ok (.ireturn, 1) := by decide +kernel
theorem dX4_gather_0 : decode cX4_gather 0 = .ok (.aload_n 0, 1) := by decide +kernel
theorem dX4_gather_1 : decode cX4_gather 1 = .ok (.aload_n 1, 1) := by decide +kernel
theorem dX4_gather_2 : decode cX4_gather 2 = .ok (.iload_n 2, 1) := by decide +kernel
theorem dX4_gather_3 : decode cX4_gather 3 = .ok (.invokevirtual 18, 3) := by decide +kernel
theorem dX4_gather_6 : decode cX4_gather 6 = .ok (.aload_n 0, 1) := by decide +kernel
theorem dX4_gather_7 : decode cX4_gather 7 = .ok (.invokevirtual 22, 3) := by decide +kernel
theorem dX4_gather_10 : decode cX4_gather 10 = .ok (.aload_n 0, 1) := by decide +kernel
theorem dX4_gather_11 : decode cX4_gather 11 = .ok (.aload_n 1, 1) := by decide +kernel
theorem dX4_gather_12 : decode cX4_gather 12 = .ok (.iload_n 2, 1) := by decide +kernel
theorem dX4_gather_13 : decode cX4_gather 13 = .ok (.invokevirtual 25, 3) := by decide +kernel
theorem dX4_gather_16 : decode cX4_gather 16 = .ok (.return_, 1) := by decide +kernel
theorem dX4_countByLength_0 : decode cX4_countByLength 0 = .ok (.iconst 0, 1) := by decide +kernel
theorem dX4_countByLength_1 : decode cX4_countByLength 1 = .ok (.istore_n 3, 1) := by decide +kernel
theorem dX4_countByLength_2 : decode cX4_countByLength 2 = .ok (.iload_n 3, 1) := by decide +kernel
theorem dX4_countByLength_3 : decode cX4_countByLength 3 = .ok (.bipush 60, 2) := by decide +kernel
theorem dX4_countByLength_5 : decode cX4_countByLength 5 = .ok (.if_icmp .ge 16, 3) := by decide +kernel
theorem dX4_countByLength_8 : decode cX4_countByLength 8 = .ok (.aload_n 0, 1) := by decide +kernel
theorem dX4_countByLength_9 : decode cX4_countByLength 9 = .ok (.getfield 15, 3) := by decide +kernel
theorem dX4_countByLength_12 : decode cX4_countByLength 12 = .ok (.iload_n 3, 1) := by decide +kernel
theorem dX4_countByLength_13 : decode cX4_countByLength 13 = .ok (.iconst 0, 1) := by decide +kernel
theorem dX4_countByLength_14 : decode cX4_countByLength 14 = .ok (.iastore, 1) := by decide +kernel
theorem dX4_countByLength_15 : decode cX4_countByLength 15 = .ok (.iinc 3 1, 3) := by decide +kernel
theorem dX4_countByLength_18 : decode cX4_countByLength 18 = .ok (.goto (-16), 3) := by decide +kernel
theorem dX4_countByLength_21 : decode cX4_countByLength 21 = .ok (.iconst 0, 1) := by decide +kernel
theorem dX4_countByLength_22 : decode cX4_countByLength 22 = .ok (.istore_n 3, 1) := by decide +kernel
theorem dX4_countByLength_23 : decode cX4_countByLength 23 = .ok (.iload_n 3, 1) := by decide +kernel
theorem dX4_countByLength_24 : decode cX4_countByLength 24 = .ok (.aload_n 1, 1) := by decide +kernel
theorem dX4_countByLength_25 : decode cX4_countByLength 25 = .ok (.getfield 28, 3) := by decide +kernel
theorem dX4_countByLength_28 : decode cX4_countByLength 28 = .ok (.if_icmp .ge 55, 3) := by decide +kernel
theorem dX4_countByLength_31 : decode cX4_countByLength 31 = .ok (.iload_n 3, 1) := by decide +kernel
theorem dX4_countByLength_32 : decode cX4_countByLength 32 = .ok (.iconst 1, 1) := by decide +kernel
theorem dX4_countByLength_33 : decode cX4_countByLength 33 = .ok (.iadd, 1) := by decide +kernel
theorem dX4_countByLength_34 : decode cX4_countByLength 34 = .ok (.istore 4, 2) := by decide +kernel
theorem dX4_countByLength_36 : decode cX4_countByLength 36 = .ok (.iload 4, 2) := by decide +kernel
theorem dX4_countByLength_38 : decode cX4_countByLength 38 = .ok (.aload_n 1, 1) := by decide +kernel
theorem dX4_countByLength_39 : decode cX4_countByLength 39 = .ok (.getfield 28, 3) := by decide +kernel
theorem dX4_countByLength_42 : decode cX4_countByLength 42 = .ok (.if_icmp .ge 35, 3) := by decide +kernel
theorem dX4_countByLength_45 : decode cX4_countByLength 45 = .ok (.aload_n 1, 1) := by decide +kernel
theorem dX4_countByLength_46 : decode cX4_countByLength 46 = .ok (.iload_n 3, 1) := by decide +kernel
theorem dX4_countByLength_47 : decode cX4_countByLength 47 = .ok (.iload 4, 2) := by decide +kernel
theorem dX4_countByLength_49 : decode cX4_countByLength 49 = .ok (.invokevirtual 34, 3) := by decide +kernel
theorem dX4_countByLength_52 : decode cX4_countByLength 52 = .ok (.istore 5, 2) := by decide +kernel
theorem dX4_countByLength_54 : decode cX4_countByLength 54 = .ok (.iload 5, 2) := by decide +kernel
theorem dX4_countByLength_56 : decode cX4_countByLength 56 = .ok (.iload_n 2, 1) := by decide +kernel
theorem dX4_countByLength_57 : decode cX4_countByLength 57 = .ok (.if_icmp .lt 14, 3) := by decide +kernel
theorem dX4_countByLength_60 : decode cX4_countByLength 60 = .ok (.aload_n 0, 1) := by decide +kernel
theorem dX4_countByLength_61 : decode cX4_countByLength 61 = .ok (.getfield 15, 3) := by decide +kernel
theorem dX4_countByLength_64 : decode cX4_countByLength 64 = .ok (.iload 5, 2) := by decide +kernel
theorem dX4_countByLength_66 : decode cX4_countByLength 66 = .ok (.dup2, 1) := by decide +kernel
theorem dX4_countByLength_67 : decode cX4_countByLength 67 = .ok (.iaload, 1) := by decide +kernel
theorem dX4_countByLength_68 : decode cX4_countByLength 68 = .ok (.iconst 1, 1) := by decide +kernel
theorem dX4_countByLength_69 : decode cX4_countByLength 69 = .ok (.iadd, 1) := by decide +kernel
theorem dX4_countByLength_70 : decode cX4_countByLength 70 = .ok (.iastore, 1) := by decide +kernel
theorem dX4_countByLength_71 : decode cX4_countByLength 71 = .ok (.iinc 4 1, 3) := by decide +kernel
theorem dX4_countByLength_74 : decode cX4_countByLength 74 = .ok (.goto (-38), 3) := by decide +kernel
theorem dX4_countByLength_77 : decode cX4_countByLength 77 = .ok (.iinc 3 1, 3) := by decide +kernel
theorem dX4_countByLength_80 : decode cX4_countByLength 80 = .ok (.goto (-57), 3) := by decide +kernel
theorem dX4_countByLength_83 : decode cX4_countByLength 83 = .ok (.return_, 1) := by decide +kernel
theorem dX4_giveSlotsLongestFirst_0 : decode cX4_giveSlotsLongestFirst 0 = .ok (.aload_n 0, 1) := by decide +kernel
theorem dX4_giveSlotsLongestFirst_1 : decode cX4_giveSlotsLongestFirst 1 = .ok (.iconst 0, 1) := by decide +kernel
theorem dX4_giveSlotsLongestFirst_2 : decode cX4_giveSlotsLongestFirst 2 = .ok (.putfield 38, 3) := by decide +kernel
theorem dX4_giveSlotsLongestFirst_5 : decode cX4_giveSlotsLongestFirst 5 = .ok (.bipush 59, 2) := by decide +kernel
theorem dX4_giveSlotsLongestFirst_7 : decode cX4_giveSlotsLongestFirst 7 = .ok (.istore_n 1, 1) := by decide +kernel
theorem dX4_giveSlotsLongestFirst_8 : decode cX4_giveSlotsLongestFirst 8 = .ok (.iload_n 1, 1) := by decide +kernel
theorem dX4_giveSlotsLongestFirst_9 : decode cX4_giveSlotsLongestFirst 9 = .ok (.ifCond .le 36, 3) := by decide +kernel
theorem dX4_giveSlotsLongestFirst_12 : decode cX4_giveSlotsLongestFirst 12 = .ok (.aload_n 0, 1) := by decide +kernel
theorem dX4_giveSlotsLongestFirst_13 : decode cX4_giveSlotsLongestFirst 13 = .ok (.getfield 15, 3) := by decide +kernel
theorem dX4_giveSlotsLongestFirst_16 : decode cX4_giveSlotsLongestFirst 16 = .ok (.iload_n 1, 1) := by decide +kernel
theorem dX4_giveSlotsLongestFirst_17 : decode cX4_giveSlotsLongestFirst 17 = .ok (.iaload, 1) := by decide +kernel
theorem dX4_giveSlotsLongestFirst_18 : decode cX4_giveSlotsLongestFirst 18 = .ok (.istore_n 2, 1) := by decide +kernel
theorem dX4_giveSlotsLongestFirst_19 : decode cX4_giveSlotsLongestFirst 19 = .ok (.aload_n 0, 1) := by decide +kernel
theorem dX4_giveSlotsLongestFirst_20 : decode cX4_giveSlotsLongestFirst 20 = .ok (.getfield 15, 3) := by decide +kernel
theorem dX4_giveSlotsLongestFirst_23 : decode cX4_giveSlotsLongestFirst 23 = .ok (.iload_n 1, 1) := by decide +kernel
theorem dX4_giveSlotsLongestFirst_24 : decode cX4_giveSlotsLongestFirst 24 = .ok (.aload_n 0, 1) := by decide +kernel
theorem dX4_giveSlotsLongestFirst_25 : decode cX4_giveSlotsLongestFirst 25 = .ok (.getfield 38, 3) := by decide +kernel
theorem dX4_giveSlotsLongestFirst_28 : decode cX4_giveSlotsLongestFirst 28 = .ok (.iastore, 1) := by decide +kernel
theorem dX4_giveSlotsLongestFirst_29 : decode cX4_giveSlotsLongestFirst 29 = .ok (.aload_n 0, 1) := by decide +kernel
theorem dX4_giveSlotsLongestFirst_30 : decode cX4_giveSlotsLongestFirst 30 = .ok (.dup, 1) := by decide +kernel
theorem dX4_giveSlotsLongestFirst_31 : decode cX4_giveSlotsLongestFirst 31 = .ok (.getfield 38, 3) := by decide +kernel
theorem dX4_giveSlotsLongestFirst_34 : decode cX4_giveSlotsLongestFirst 34 = .ok (.iload_n 2, 1) := by decide +kernel
theorem dX4_giveSlotsLongestFirst_35 : decode cX4_giveSlotsLongestFirst 35 = .ok (.iadd, 1) := by decide +kernel
theorem dX4_giveSlotsLongestFirst_36 : decode cX4_giveSlotsLongestFirst 36 = .ok (.putfield 38, 3) := by decide +kernel
theorem dX4_giveSlotsLongestFirst_39 : decode cX4_giveSlotsLongestFirst 39 = .ok (.iinc 1 (-1), 3) := by decide +kernel
theorem dX4_giveSlotsLongestFirst_42 : decode cX4_giveSlotsLongestFirst 42 = .ok (.goto (-34), 3) := by decide +kernel
theorem dX4_giveSlotsLongestFirst_45 : decode cX4_giveSlotsLongestFirst 45 = .ok (.return_, 1) := by decide +kernel
theorem dX4_putInSlots_0 : decode cX4_putInSlots 0 = .ok (.iconst 0, 1) := by decide +kernel
theorem dX4_putInSlots_1 : decode cX4_putInSlots 1 = .ok (.istore_n 3, 1) := by decide +kernel
theorem dX4_putInSlots_2 : decode cX4_putInSlots 2 = .ok (.iload_n 3, 1) := by decide +kernel
theorem dX4_putInSlots_3 : decode cX4_putInSlots 3 = .ok (.aload_n 1, 1) := by decide +kernel
theorem dX4_putInSlots_4 : decode cX4_putInSlots 4 = .ok (.getfield 28, 3) := by decide +kernel
theorem dX4_putInSlots_7 : decode cX4_putInSlots 7 = .ok (.if_icmp .ge 71, 3) := by decide +kernel
theorem dX4_putInSlots_10 : decode cX4_putInSlots 10 = .ok (.iload_n 3, 1) := by decide +kernel
theorem dX4_putInSlots_11 : decode cX4_putInSlots 11 = .ok (.iconst 1, 1) := by decide +kernel
theorem dX4_putInSlots_12 : decode cX4_putInSlots 12 = .ok (.iadd, 1) := by decide +kernel
theorem dX4_putInSlots_13 : decode cX4_putInSlots 13 = .ok (.istore 4, 2) := by decide +kernel
theorem dX4_putInSlots_15 : decode cX4_putInSlots 15 = .ok (.iload 4, 2) := by decide +kernel
theorem dX4_putInSlots_17 : decode cX4_putInSlots 17 = .ok (.aload_n 1, 1) := by decide +kernel
theorem dX4_putInSlots_18 : decode cX4_putInSlots 18 = .ok (.getfield 28, 3) := by decide +kernel
theorem dX4_putInSlots_21 : decode cX4_putInSlots 21 = .ok (.if_icmp .ge 51, 3) := by decide +kernel
theorem dX4_putInSlots_24 : decode cX4_putInSlots 24 = .ok (.aload_n 1, 1) := by decide +kernel
theorem dX4_putInSlots_25 : decode cX4_putInSlots 25 = .ok (.iload_n 3, 1) := by decide +kernel
theorem dX4_putInSlots_26 : decode cX4_putInSlots 26 = .ok (.iload 4, 2) := by decide +kernel
theorem dX4_putInSlots_28 : decode cX4_putInSlots 28 = .ok (.invokevirtual 34, 3) := by decide +kernel
theorem dX4_putInSlots_31 : decode cX4_putInSlots 31 = .ok (.istore 5, 2) := by decide +kernel
theorem dX4_putInSlots_33 : decode cX4_putInSlots 33 = .ok (.iload 5, 2) := by decide +kernel
theorem dX4_putInSlots_35 : decode cX4_putInSlots 35 = .ok (.iload_n 2, 1) := by decide +kernel
theorem dX4_putInSlots_36 : decode cX4_putInSlots 36 = .ok (.if_icmp .lt 30, 3) := by decide +kernel
theorem dX4_putInSlots_39 : decode cX4_putInSlots 39 = .ok (.aload_n 0, 1) := by decide +kernel
theorem dX4_putInSlots_40 : decode cX4_putInSlots 40 = .ok (.aload_n 0, 1) := by decide +kernel
theorem dX4_putInSlots_41 : decode cX4_putInSlots 41 = .ok (.getfield 15, 3) := by decide +kernel
theorem dX4_putInSlots_44 : decode cX4_putInSlots 44 = .ok (.iload 5, 2) := by decide +kernel
theorem dX4_putInSlots_46 : decode cX4_putInSlots 46 = .ok (.iaload, 1) := by decide +kernel
theorem dX4_putInSlots_47 : decode cX4_putInSlots 47 = .ok (.iload_n 3, 1) := by decide +kernel
theorem dX4_putInSlots_48 : decode cX4_putInSlots 48 = .ok (.iload 4, 2) := by decide +kernel
theorem dX4_putInSlots_50 : decode cX4_putInSlots 50 = .ok (.iload 5, 2) := by decide +kernel
theorem dX4_putInSlots_52 : decode cX4_putInSlots 52 = .ok (.invokevirtual 39, 3) := by decide +kernel
theorem dX4_putInSlots_55 : decode cX4_putInSlots 55 = .ok (.aload_n 0, 1) := by decide +kernel
theorem dX4_putInSlots_56 : decode cX4_putInSlots 56 = .ok (.getfield 15, 3) := by decide +kernel
theorem dX4_putInSlots_59 : decode cX4_putInSlots 59 = .ok (.iload 5, 2) := by decide +kernel
theorem dX4_putInSlots_61 : decode cX4_putInSlots 61 = .ok (.dup2, 1) := by decide +kernel
theorem dX4_putInSlots_62 : decode cX4_putInSlots 62 = .ok (.iaload, 1) := by decide +kernel
theorem dX4_putInSlots_63 : decode cX4_putInSlots 63 = .ok (.iconst 1, 1) := by decide +kernel
theorem dX4_putInSlots_64 : decode cX4_putInSlots 64 = .ok (.iadd, 1) := by decide +kernel
theorem dX4_putInSlots_65 : decode cX4_putInSlots 65 = .ok (.iastore, 1) := by decide +kernel
theorem dX4_putInSlots_66 : decode cX4_putInSlots 66 = .ok (.iinc 4 1, 3) := by decide +kernel
theorem dX4_putInSlots_69 : decode cX4_putInSlots 69 = .ok (.goto (-54), 3) := by decide +kernel
theorem dX4_putInSlots_72 : decode cX4_putInSlots 72 = .ok (.iinc 3 1, 3) := by decide +kernel
theorem dX4_putInSlots_75 : decode cX4_putInSlots 75 = .ok (.goto (-73), 3) := by decide +kernel
theorem dX4_putInSlots_78 : decode cX4_putInSlots 78 = .ok (.return_, 1) := by decide +kernel
theorem dX4_put_0 : decode cX4_put 0 = .ok (.iload_n 1, 1) := by decide +kernel
theorem dX4_put_1 : decode cX4_put 1 = .ok (.sipush 900, 3) := by decide +kernel
theorem dX4_put_4 : decode cX4_put 4 = .ok (.if_icmp .ge 35, 3) := by decide +kernel
theorem dX4_put_7 : decode cX4_put 7 = .ok (.aload_n 0, 1) := by decide +kernel
theorem dX4_put_8 : decode cX4_put 8 = .ok (.getfield 11, 3) := by decide +kernel
theorem dX4_put_11 : decode cX4_put 11 = .ok (.iconst 3, 1) := by decide +kernel
theorem dX4_put_12 : decode cX4_put 12 = .ok (.iload_n 1, 1) := by decide +kernel
theorem dX4_put_13 : decode cX4_put 13 = .ok (.imul, 1) := by decide +kernel
theorem dX4_put_14 : decode cX4_put 14 = .ok (.iload_n 2, 1) := by decide +kernel
theorem dX4_put_15 : decode cX4_put 15 = .ok (.iastore, 1) := by decide +kernel
theorem dX4_put_16 : decode cX4_put 16 = .ok (.aload_n 0, 1) := by decide +kernel
theorem dX4_put_17 : decode cX4_put 17 = .ok (.getfield 11, 3) := by decide +kernel
theorem dX4_put_20 : decode cX4_put 20 = .ok (.iconst 3, 1) := by decide +kernel
theorem dX4_put_21 : decode cX4_put 21 = .ok (.iload_n 1, 1) := by decide +kernel
theorem dX4_put_22 : decode cX4_put 22 = .ok (.imul, 1) := by decide +kernel
theorem dX4_put_23 : decode cX4_put 23 = .ok (.iconst 1, 1) := by decide +kernel
theorem dX4_put_24 : decode cX4_put 24 = .ok (.iadd, 1) := by decide +kernel
theorem dX4_put_25 : decode cX4_put 25 = .ok (.iload_n 3, 1) := by decide +kernel
theorem dX4_put_26 : decode cX4_put 26 = .ok (.iastore, 1) := by decide +kernel
theorem dX4_put_27 : decode cX4_put 27 = .ok (.aload_n 0, 1) := by decide +kernel
theorem dX4_put_28 : decode cX4_put 28 = .ok (.getfield 11, 3) := by decide +kernel
theorem dX4_put_31 : decode cX4_put 31 = .ok (.iconst 3, 1) := by decide +kernel
theorem dX4_put_32 : decode cX4_put 32 = .ok (.iload_n 1, 1) := by decide +kernel
theorem dX4_put_33 : decode cX4_put 33 = .ok (.imul, 1) := by decide +kernel
theorem dX4_put_34 : decode cX4_put 34 = .ok (.iconst 2, 1) := by decide +kernel
theorem dX4_put_35 : decode cX4_put 35 = .ok (.iadd, 1) := by decide +kernel
theorem dX4_put_36 : decode cX4_put 36 = .ok (.iload 4, 2) := by decide +kernel
theorem dX4_put_38 : decode cX4_put 38 = .ok (.iastore, 1) := by decide +kernel
theorem dX4_put_39 : decode cX4_put 39 = .ok (.return_, 1) := by decide +kernel
theorem dJ6_signum_0f7a4_0 : decode cJ6_signum_0f7a4 0 = .ok (.iload_n 0, 1) := by decide +kernel
theorem dJ6_signum_0f7a4_1 : decode cJ6_signum_0f7a4 1 = .ok (.bipush 31, 2) := by decide +kernel
theorem dJ6_signum_0f7a4_3 : decode cJ6_signum_0f7a4 3 = .ok (.ishr, 1) := by decide +kernel
theorem dJ6_signum_0f7a4_4 : decode cJ6_signum_0f7a4 4 = .ok (.iload_n 0, 1) := by decide +kernel
theorem dJ6_signum_0f7a4_5 : decode cJ6_signum_0f7a4 5 = .ok (.ineg, 1) := by decide +kernel
theorem dJ6_signum_0f7a4_6 : decode cJ6_signum_0f7a4 6 = .ok (.bipush 31, 2) := by decide +kernel
theorem dJ6_signum_0f7a4_8 : decode cJ6_signum_0f7a4 8 = .ok (.iushr, 1) := by decide +kernel
theorem dJ6_signum_0f7a4_9 : decode cJ6_signum_0f7a4 9 = .ok (.ior, 1) := by decide +kernel
theorem dJ6_signum_0f7a4_10 : decode cJ6_signum_0f7a4 10 = .ok (.ireturn, 1) := by decide +kernel
theorem dJ9_floorMod_7cf53_0 : decode cJ9_floorMod_7cf53 0 = .ok (.iload_n 0, 1) := by decide +kernel
theorem dJ9_floorMod_7cf53_1 : decode cJ9_floorMod_7cf53 1 = .ok (.iload_n 1, 1) := by decide +kernel
theorem dJ9_floorMod_7cf53_2 : decode cJ9_floorMod_7cf53 2 = .ok (.irem, 1) := by decide +kernel
theorem dJ9_floorMod_7cf53_3 : decode cJ9_floorMod_7cf53 3 = .ok (.istore_n 2, 1) := by decide +kernel
theorem dJ9_floorMod_7cf53_4 : decode cJ9_floorMod_7cf53 4 = .ok (.iload_n 0, 1) := by decide +kernel
theorem dJ9_floorMod_7cf53_5 : decode cJ9_floorMod_7cf53 5 = .ok (.iload_n 1, 1) := by decide +kernel
theorem dJ9_floorMod_7cf53_6 : decode cJ9_floorMod_7cf53 6 = .ok (.ixor, 1) := by decide +kernel
theorem dJ9_floorMod_7cf53_7 : decode cJ9_floorMod_7cf53 7 = .ok (.ifCond .ge 11, 3) := by decide +kernel
theorem dJ9_floorMod_7cf53_10 : decode cJ9_floorMod_7cf53 10 = .ok (.iload_n 2, 1) := by decide +kernel
theorem dJ9_floorMod_7cf53_11 : decode cJ9_floorMod_7cf53 11 = .ok (.ifCond .eq 7, 3) := by decide +kernel
theorem dJ9_floorMod_7cf53_14 : decode cJ9_floorMod_7cf53 14 = .ok (.iload_n 2, 1) := by decide +kernel
theorem dJ9_floorMod_7cf53_15 : decode cJ9_floorMod_7cf53 15 = .ok (.iload_n 1, 1) := by decide +kernel
theorem dJ9_floorMod_7cf53_16 : decode cJ9_floorMod_7cf53 16 = .ok (.iadd, 1) := by decide +kernel
theorem dJ9_floorMod_7cf53_17 : decode cJ9_floorMod_7cf53 17 = .ok (.ireturn, 1) := by decide +kernel
theorem dJ9_floorMod_7cf53_18 : decode cJ9_floorMod_7cf53 18 = .ok (.iload_n 2, 1) := by decide +kernel
theorem dJ9_floorMod_7cf53_19 : decode cJ9_floorMod_7cf53 19 = .ok (.ireturn, 1) := by decide +kernel
theorem dJ9_max_7cf53_0 : decode cJ9_max_7cf53 0 = .ok (.iload_n 0, 1) := by decide +kernel
theorem dJ9_max_7cf53_1 : decode cJ9_max_7cf53 1 = .ok (.iload_n 1, 1) := by decide +kernel
theorem dJ9_max_7cf53_2 : decode cJ9_max_7cf53 2 = .ok (.if_icmp .lt 7, 3) := by decide +kernel
theorem dJ9_max_7cf53_5 : decode cJ9_max_7cf53 5 = .ok (.iload_n 0, 1) := by decide +kernel
theorem dJ9_max_7cf53_6 : decode cJ9_max_7cf53 6 = .ok (.goto 4, 3) := by decide +kernel
theorem dJ9_max_7cf53_9 : decode cJ9_max_7cf53 9 = .ok (.iload_n 1, 1) := by decide +kernel
theorem dJ9_max_7cf53_10 : decode cJ9_max_7cf53 10 = .ok (.ireturn, 1) := by decide +kernel
theorem dJ9_min_7cf53_0 : decode cJ9_min_7cf53 0 = .ok (.iload_n 0, 1) := by decide +kernel
theorem dJ9_min_7cf53_1 : decode cJ9_min_7cf53 1 = .ok (.iload_n 1, 1) := by decide +kernel
theorem dJ9_min_7cf53_2 : decode cJ9_min_7cf53 2 = .ok (.if_icmp .gt 7, 3) := by decide +kernel
theorem dJ9_min_7cf53_5 : decode cJ9_min_7cf53 5 = .ok (.iload_n 0, 1) := by decide +kernel
theorem dJ9_min_7cf53_6 : decode cJ9_min_7cf53 6 = .ok (.goto 4, 3) := by decide +kernel
theorem dJ9_min_7cf53_9 : decode cJ9_min_7cf53 9 = .ok (.iload_n 1, 1) := by decide +kernel
theorem dJ9_min_7cf53_10 : decode cJ9_min_7cf53 10 = .ok (.ireturn, 1) := by decide +kernel
theorem dX5_init_0 : decode cX5_init 0 = .ok (.aload_n 0, 1) := by decide +kernel
theorem dX5_init_1 : decode cX5_init 1 = .ok (.invokespecial 1, 3) := by decide +kernel
theorem dX5_init_4 : decode cX5_init 4 = .ok (.aload_n 0, 1) := by decide +kernel
theorem dX5_init_5 : decode cX5_init 5 = .ok (.new 7, 3) := by decide +kernel
theorem dX5_init_8 : decode cX5_init 8 = .ok (.dup, 1) := by decide +kernel
theorem dX5_init_9 : decode cX5_init 9 = .ok (.invokespecial 9, 3) := by decide +kernel
theorem dX5_init_12 : decode cX5_init 12 = .ok (.putfield 10, 3) := by decide +kernel
theorem dX5_init_15 : decode cX5_init 15 = .ok (.aload_n 0, 1) := by decide +kernel
theorem dX5_init_16 : decode cX5_init 16 = .ok (.new 7, 3) := by decide +kernel
theorem dX5_init_19 : decode cX5_init 19 = .ok (.dup, 1) := by decide +kernel
theorem dX5_init_20 : decode cX5_init 20 = .ok (.invokespecial 9, 3) := by decide +kernel
theorem dX5_init_23 : decode cX5_init 23 = .ok (.putfield 16, 3) := by decide +kernel
theorem dX5_init_26 : decode cX5_init 26 = .ok (.aload_n 0, 1) := by decide +kernel
theorem dX5_init_27 : decode cX5_init 27 = .ok (.new 7, 3) := by decide +kernel
theorem dX5_init_30 : decode cX5_init 30 = .ok (.dup, 1) := by decide +kernel
theorem dX5_init_31 : decode cX5_init 31 = .ok (.invokespecial 9, 3) := by decide +kernel
theorem dX5_init_34 : decode cX5_init 34 = .ok (.putfield 19, 3) := by decide +kernel
theorem dX5_init_37 : decode cX5_init 37 = .ok (.aload_n 0, 1) := by decide +kernel
theorem dX5_init_38 : decode cX5_init 38 = .ok (.new 22, 3) := by decide +kernel
theorem dX5_init_41 : decode cX5_init 41 = .ok (.dup, 1) := by decide +kernel
theorem dX5_init_42 : decode cX5_init 42 = .ok (.invokespecial 24, 3) := by decide +kernel
theorem dX5_init_45 : decode cX5_init 45 = .ok (.putfield 25, 3) := by decide +kernel
theorem dX5_init_48 : decode cX5_init 48 = .ok (.aload_n 0, 1) := by decide +kernel
theorem dX5_init_49 : decode cX5_init 49 = .ok (.new 29, 3) := by decide +kernel
theorem dX5_init_52 : decode cX5_init 52 = .ok (.dup, 1) := by decide +kernel
theorem dX5_init_53 : decode cX5_init 53 = .ok (.invokespecial 31, 3) := by decide +kernel
theorem dX5_init_56 : decode cX5_init 56 = .ok (.putfield 32, 3) := by decide +kernel
theorem dX5_init_59 : decode cX5_init 59 = .ok (.aload_n 0, 1) := by decide +kernel
theorem dX5_init_60 : decode cX5_init 60 = .ok (.new 36, 3) := by decide +kernel
theorem dX5_init_63 : decode cX5_init 63 = .ok (.dup, 1) := by decide +kernel
theorem dX5_init_64 : decode cX5_init 64 = .ok (.invokespecial 38, 3) := by decide +kernel
theorem dX5_init_67 : decode cX5_init 67 = .ok (.putfield 39, 3) := by decide +kernel
theorem dX5_init_70 : decode cX5_init 70 = .ok (.aload_n 0, 1) := by decide +kernel
theorem dX5_init_71 : decode cX5_init 71 = .ok (.new 43, 3) := by decide +kernel
theorem dX5_init_74 : decode cX5_init 74 = .ok (.dup, 1) := by decide +kernel
theorem dX5_init_75 : decode cX5_init 75 = .ok (.invokespecial 45, 3) := by decide +kernel
theorem dX5_init_78 : decode cX5_init 78 = .ok (.putfield 46, 3) := by decide +kernel
theorem dX5_init_81 : decode cX5_init 81 = .ok (.return_, 1) := by decide +kernel
theorem dX5_clear_0 : decode cX5_clear 0 = .ok (.aload_n 0, 1) := by decide +kernel
theorem dX5_clear_1 : decode cX5_clear 1 = .ok (.getfield 10, 3) := by decide +kernel
theorem dX5_clear_4 : decode cX5_clear 4 = .ok (.getfield 50, 3) := by decide +kernel
theorem dX5_clear_7 : decode cX5_clear 7 = .ok (.istore_n 1, 1) := by decide +kernel
theorem dX5_clear_8 : decode cX5_clear 8 = .ok (.aload_n 0, 1) := by decide +kernel
theorem dX5_clear_9 : decode cX5_clear 9 = .ok (.getfield 10, 3) := by decide +kernel
theorem dX5_clear_12 : decode cX5_clear 12 = .ok (.iconst 0, 1) := by decide +kernel
theorem dX5_clear_13 : decode cX5_clear 13 = .ok (.putfield 50, 3) := by decide +kernel
theorem dX5_clear_16 : decode cX5_clear 16 = .ok (.aload_n 0, 1) := by decide +kernel
theorem dX5_clear_17 : decode cX5_clear 17 = .ok (.getfield 16, 3) := by decide +kernel
theorem dX5_clear_20 : decode cX5_clear 20 = .ok (.iconst 0, 1) := by decide +kernel
theorem dX5_clear_21 : decode cX5_clear 21 = .ok (.putfield 50, 3) := by decide +kernel
theorem dX5_clear_24 : decode cX5_clear 24 = .ok (.aload_n 0, 1) := by decide +kernel
theorem dX5_clear_25 : decode cX5_clear 25 = .ok (.getfield 32, 3) := by decide +kernel
theorem dX5_clear_28 : decode cX5_clear 28 = .ok (.iconst 0, 1) := by decide +kernel
theorem dX5_clear_29 : decode cX5_clear 29 = .ok (.putfield 54, 3) := by decide +kernel
theorem dX5_clear_32 : decode cX5_clear 32 = .ok (.aload_n 0, 1) := by decide +kernel
theorem dX5_clear_33 : decode cX5_clear 33 = .ok (.getfield 39, 3) := by decide +kernel
theorem dX5_clear_36 : decode cX5_clear 36 = .ok (.iconst 0, 1) := by decide +kernel
theorem dX5_clear_37 : decode cX5_clear 37 = .ok (.putfield 55, 3) := by decide +kernel
theorem dX5_clear_40 : decode cX5_clear 40 = .ok (.aload_n 0, 1) := by decide +kernel
theorem dX5_clear_41 : decode cX5_clear 41 = .ok (.getfield 46, 3) := by decide +kernel
theorem dX5_clear_44 : decode cX5_clear 44 = .ok (.iconst 0, 1) := by decide +kernel
theorem dX5_clear_45 : decode cX5_clear 45 = .ok (.putfield 56, 3) := by decide +kernel
theorem dX5_clear_48 : decode cX5_clear 48 = .ok (.aload_n 0, 1) := by decide +kernel
theorem dX5_clear_49 : decode cX5_clear 49 = .ok (.getfield 46, 3) := by decide +kernel
theorem dX5_clear_52 : decode cX5_clear 52 = .ok (.iconst 0, 1) := by decide +kernel
theorem dX5_clear_53 : decode cX5_clear 53 = .ok (.putfield 57, 3) := by decide +kernel
theorem dX5_clear_56 : decode cX5_clear 56 = .ok (.iload_n 1, 1) := by decide +kernel
theorem dX5_clear_57 : decode cX5_clear 57 = .ok (.ireturn, 1) := by decide +kernel
theorem dX5_note_0 : decode cX5_note 0 = .ok (.iload_n 1, 1) := by decide +kernel
theorem dX5_note_1 : decode cX5_note 1 = .ok (.iconst 0, 1) := by decide +kernel
theorem dX5_note_2 : decode cX5_note 2 = .ok (.bipush 127, 2) := by decide +kernel
theorem dX5_note_4 : decode cX5_note 4 = .ok (.invokestatic 60, 3) := by decide +kernel
theorem dX5_note_7 : decode cX5_note 7 = .ok (.ifCond .eq 14, 3) := by decide +kernel
theorem dX5_note_10 : decode cX5_note 10 = .ok (.iload_n 2, 1) := by decide +kernel
theorem dX5_note_11 : decode cX5_note 11 = .ok (.iconst 1, 1) := by decide +kernel
theorem dX5_note_12 : decode cX5_note 12 = .ok (.sipush 999, 3) := by decide +kernel
theorem dX5_note_15 : decode cX5_note 15 = .ok (.invokestatic 60, 3) := by decide +kernel
theorem dX5_note_18 : decode cX5_note 18 = .ok (.ifCond .ne 13, 3) := by decide +kernel
theorem dX5_note_21 : decode cX5_note 21 = .ok (.new 64, 3) := by decide +kernel
theorem dX5_note_24 : decode cX5_note 24 = .ok (.dup, 1) := by decide +kernel
theorem dX5_note_25 : decode cX5_note 25 = .ok (.ldc 66, 2) := by decide +kernel
theorem dX5_note_27 : decode cX5_note 27 = .ok (.invokespecial 68, 3) := by decide +kernel
theorem dX5_note_30 : decode cX5_note 30 = .ok (.athrow, 1) := by decide +kernel
theorem dX5_note_31 : decode cX5_note 31 = .ok (.aload_n 0, 1) := by decide +kernel
theorem dX5_note_32 : decode cX5_note 32 = .ok (.getfield 10, 3) := by decide +kernel
theorem dX5_note_35 : decode cX5_note 35 = .ok (.getfield 50, 3) := by decide +kernel
theorem dX5_note_38 : decode cX5_note 38 = .ok (.bipush 60, 2) := by decide +kernel
theorem dX5_note_40 : decode cX5_note 40 = .ok (.if_icmp .lt 13, 3) := by decide +kernel
theorem dX5_note_43 : decode cX5_note 43 = .ok (.new 71, 3) := by decide +kernel
theorem dX5_note_46 : decode cX5_note 46 = .ok (.dup, 1) := by decide +kernel
theorem dX5_note_47 : decode cX5_note 47 = .ok (.ldc 73, 2) := by decide +kernel
theorem dX5_note_49 : decode cX5_note 49 = .ok (.invokespecial 75, 3) := by decide +kernel
theorem dX5_note_52 : decode cX5_note 52 = .ok (.athrow, 1) := by decide +kernel
theorem dX5_note_53 : decode cX5_note 53 = .ok (.aload_n 0, 1) := by decide +kernel
theorem dX5_note_54 : decode cX5_note 54 = .ok (.getfield 10, 3) := by decide +kernel
theorem dX5_note_57 : decode cX5_note 57 = .ok (.iload_n 1, 1) := by decide +kernel
theorem dX5_note_58 : decode cX5_note 58 = .ok (.iload_n 2, 1) := by decide +kernel
theorem dX5_note_59 : decode cX5_note 59 = .ok (.invokevirtual 76, 3) := by decide +kernel
theorem dX5_note_62 : decode cX5_note 62 = .ok (.aload_n 0, 1) := by decide +kernel
theorem dX5_note_63 : decode cX5_note 63 = .ok (.getfield 10, 3) := by decide +kernel
theorem dX5_note_66 : decode cX5_note 66 = .ok (.getfield 50, 3) := by decide +kernel
theorem dX5_note_69 : decode cX5_note 69 = .ok (.iconst 1, 1) := by decide +kernel
theorem dX5_note_70 : decode cX5_note 70 = .ok (.isub, 1) := by decide +kernel
theorem dX5_note_71 : decode cX5_note 71 = .ok (.ireturn, 1) := by decide +kernel
theorem dX5_drop_0 : decode cX5_drop 0 = .ok (.iload_n 1, 1) := by decide +kernel
theorem dX5_drop_1 : decode cX5_drop 1 = .ok (.iconst 0, 1) := by decide +kernel
theorem dX5_drop_2 : decode cX5_drop 2 = .ok (.aload_n 0, 1) := by decide +kernel
theorem dX5_drop_3 : decode cX5_drop 3 = .ok (.getfield 10, 3) := by decide +kernel
theorem dX5_drop_6 : decode cX5_drop 6 = .ok (.getfield 50, 3) := by decide +kernel
theorem dX5_drop_9 : decode cX5_drop 9 = .ok (.invokestatic 60, 3) := by decide +kernel
theorem dX5_drop_12 : decode cX5_drop 12 = .ok (.ifCond .ne 13, 3) := by decide +kernel
theorem dX5_drop_15 : decode cX5_drop 15 = .ok (.new 64, 3) := by decide +kernel
theorem dX5_drop_18 : decode cX5_drop 18 = .ok (.dup, 1) := by decide +kernel
theorem dX5_drop_19 : decode cX5_drop 19 = .ok (.ldc 80, 2) := by decide +kernel
theorem dX5_drop_21 : decode cX5_drop 21 = .ok (.invokespecial 68, 3) := by decide +kernel
theorem dX5_drop_24 : decode cX5_drop 24 = .ok (.athrow, 1) := by decide +kernel
theorem dX5_drop_25 : decode cX5_drop 25 = .ok (.aload_n 0, 1) := by decide +kernel
theorem dX5_drop_26 : decode cX5_drop 26 = .ok (.getfield 10, 3) := by decide +kernel
theorem dX5_drop_29 : decode cX5_drop 29 = .ok (.dup, 1) := by decide +kernel
theorem dX5_drop_30 : decode cX5_drop 30 = .ok (.getfield 50, 3) := by decide +kernel
theorem dX5_drop_33 : decode cX5_drop 33 = .ok (.iload_n 1, 1) := by decide +kernel
theorem dX5_drop_34 : decode cX5_drop 34 = .ok (.isub, 1) := by decide +kernel
theorem dX5_drop_35 : decode cX5_drop 35 = .ok (.putfield 50, 3) := by decide +kernel
theorem dX5_drop_38 : decode cX5_drop 38 = .ok (.aload_n 0, 1) := by decide +kernel
theorem dX5_drop_39 : decode cX5_drop 39 = .ok (.getfield 10, 3) := by decide +kernel
theorem dX5_drop_42 : decode cX5_drop 42 = .ok (.getfield 50, 3) := by decide +kernel
theorem dX5_drop_45 : decode cX5_drop 45 = .ok (.ireturn, 1) := by decide +kernel
theorem dX5_items_0 : decode cX5_items 0 = .ok (.iload_n 1, 1) := by decide +kernel
theorem dX5_items_1 : decode cX5_items 1 = .ok (.invokestatic 82, 3) := by decide +kernel
theorem dX5_items_4 : decode cX5_items 4 = .ok (.ifCond .ne 13, 3) := by decide +kernel
theorem dX5_items_7 : decode cX5_items 7 = .ok (.new 64, 3) := by decide +kernel
theorem dX5_items_10 : decode cX5_items 10 = .ok (.dup, 1) := by decide +kernel
theorem dX5_items_11 : decode cX5_items 11 = .ok (.ldc 86, 2) := by decide +kernel
theorem dX5_items_13 : decode cX5_items 13 = .ok (.invokespecial 68, 3) := by decide +kernel
theorem dX5_items_16 : decode cX5_items 16 = .ok (.athrow, 1) := by decide +kernel
theorem dX5_items_17 : decode cX5_items 17 = .ok (.aload_n 0, 1) := by decide +kernel
theorem dX5_items_18 : decode cX5_items 18 = .ok (.getfield 10, 3) := by decide +kernel
theorem dX5_items_21 : decode cX5_items 21 = .ok (.iload_n 1, 1) := by decide +kernel
theorem dX5_items_22 : decode cX5_items 22 = .ok (.invokestatic 88, 3) := by decide +kernel
theorem dX5_items_25 : decode cX5_items 25 = .ok (.ireturn, 1) := by decide +kernel
theorem dX5_item_0 : decode cX5_item 0 = .ok (.iload_n 1, 1) := by decide +kernel
theorem dX5_item_1 : decode cX5_item 1 = .ok (.invokestatic 82, 3) := by decide +kernel
theorem dX5_item_4 : decode cX5_item 4 = .ok (.ifCond .eq 21, 3) := by decide +kernel
theorem dX5_item_7 : decode cX5_item 7 = .ok (.iload_n 2, 1) := by decide +kernel
theorem dX5_item_8 : decode cX5_item 8 = .ok (.iconst 0, 1) := by decide +kernel
theorem dX5_item_9 : decode cX5_item 9 = .ok (.aload_n 0, 1) := by decide +kernel
theorem dX5_item_10 : decode cX5_item 10 = .ok (.getfield 10, 3) := by decide +kernel
theorem dX5_item_13 : decode cX5_item 13 = .ok (.iload_n 1, 1) := by decide +kernel
theorem dX5_item_14 : decode cX5_item 14 = .ok (.invokestatic 88, 3) := by decide +kernel
theorem dX5_item_17 : decode cX5_item 17 = .ok (.iconst 1, 1) := by decide +kernel
theorem dX5_item_18 : decode cX5_item 18 = .ok (.isub, 1) := by decide +kernel
theorem dX5_item_19 : decode cX5_item 19 = .ok (.invokestatic 60, 3) := by decide +kernel
theorem dX5_item_22 : decode cX5_item 22 = .ok (.ifCond .ne 13, 3) := by decide +kernel
theorem dX5_item_25 : decode cX5_item 25 = .ok (.new 64, 3) := by decide +kernel
theorem dX5_item_28 : decode cX5_item 28 = .ok (.dup, 1) := by decide +kernel
theorem dX5_item_29 : decode cX5_item 29 = .ok (.ldc 92, 2) := by decide +kernel
theorem dX5_item_31 : decode cX5_item 31 = .ok (.invokespecial 68, 3) := by decide +kernel
theorem dX5_item_34 : decode cX5_item 34 = .ok (.athrow, 1) := by decide +kernel
theorem dX5_item_35 : decode cX5_item 35 = .ok (.aload_n 0, 1) := by decide +kernel
theorem dX5_item_36 : decode cX5_item 36 = .ok (.getfield 10, 3) := by decide +kernel
theorem dX5_item_39 : decode cX5_item 39 = .ok (.iload_n 1, 1) := by decide +kernel
theorem dX5_item_40 : decode cX5_item 40 = .ok (.iload_n 2, 1) := by decide +kernel
theorem dX5_item_41 : decode cX5_item 41 = .ok (.invokestatic 94, 3) := by decide +kernel
theorem dX5_item_44 : decode cX5_item 44 = .ok (.ireturn, 1) := by decide +kernel
theorem dX5_repeats_0 : decode cX5_repeats 0 = .ok (.iload_n 1, 1) := by decide +kernel
theorem dX5_repeats_1 : decode cX5_repeats 1 = .ok (.invokestatic 82, 3) := by decide +kernel
theorem dX5_repeats_4 : decode cX5_repeats 4 = .ok (.ifCond .eq 13, 3) := by decide +kernel
theorem dX5_repeats_7 : decode cX5_repeats 7 = .ok (.iload_n 2, 1) := by decide +kernel
theorem dX5_repeats_8 : decode cX5_repeats 8 = .ok (.iconst 1, 1) := by decide +kernel
theorem dX5_repeats_9 : decode cX5_repeats 9 = .ok (.bipush 60, 2) := by decide +kernel
theorem dX5_repeats_11 : decode cX5_repeats 11 = .ok (.invokestatic 60, 3) := by decide +kernel
theorem dX5_repeats_14 : decode cX5_repeats 14 = .ok (.ifCond .ne 13, 3) := by decide +kernel
theorem dX5_repeats_17 : decode cX5_repeats 17 = .ok (.new 64, 3) := by decide +kernel
theorem dX5_repeats_20 : decode cX5_repeats 20 = .ok (.dup, 1) := by decide +kernel
theorem dX5_repeats_21 : decode cX5_repeats 21 = .ok (.ldc 98, 2) := by decide +kernel
theorem dX5_repeats_23 : decode cX5_repeats 23 = .ok (.invokespecial 68, 3) := by decide +kernel
theorem dX5_repeats_26 : decode cX5_repeats 26 = .ok (.athrow, 1) := by decide +kernel
theorem dX5_repeats_27 : decode cX5_repeats 27 = .ok (.aload_n 0, 1) := by decide +kernel
theorem dX5_repeats_28 : decode cX5_repeats 28 = .ok (.getfield 25, 3) := by decide +kernel
theorem dX5_repeats_31 : decode cX5_repeats 31 = .ok (.aload_n 0, 1) := by decide +kernel
theorem dX5_repeats_32 : decode cX5_repeats 32 = .ok (.getfield 10, 3) := by decide +kernel
theorem dX5_repeats_35 : decode cX5_repeats 35 = .ok (.iload_n 1, 1) := by decide +kernel
theorem dX5_repeats_36 : decode cX5_repeats 36 = .ok (.invokevirtual 100, 3) := by decide +kernel
theorem dX5_repeats_39 : decode cX5_repeats 39 = .ok (.aload_n 0, 1) := by decide +kernel
theorem dX5_repeats_40 : decode cX5_repeats 40 = .ok (.getfield 32, 3) := by decide +kernel
theorem dX5_repeats_43 : decode cX5_repeats 43 = .ok (.aload_n 0, 1) := by decide +kernel
theorem dX5_repeats_44 : decode cX5_repeats 44 = .ok (.getfield 25, 3) := by decide +kernel
theorem dX5_repeats_47 : decode cX5_repeats 47 = .ok (.iload_n 2, 1) := by decide +kernel
theorem dX5_repeats_48 : decode cX5_repeats 48 = .ok (.invokevirtual 104, 3) := by decide +kernel
theorem dX5_repeats_51 : decode cX5_repeats 51 = .ok (.aload_n 0, 1) := by decide +kernel
theorem dX5_repeats_52 : decode cX5_repeats 52 = .ok (.getfield 32, 3) := by decide +kernel
theorem dX5_repeats_55 : decode cX5_repeats 55 = .ok (.getfield 54, 3) := by decide +kernel
theorem dX5_repeats_58 : decode cX5_repeats 58 = .ok (.ireturn, 1) := by decide +kernel
theorem dX5_repeat_0 : decode cX5_repeat 0 = .ok (.iload_n 1, 1) := by decide +kernel
theorem dX5_repeat_1 : decode cX5_repeat 1 = .ok (.iconst 0, 1) := by decide +kernel
theorem dX5_repeat_2 : decode cX5_repeat 2 = .ok (.aload_n 0, 1) := by decide +kernel
theorem dX5_repeat_3 : decode cX5_repeat 3 = .ok (.getfield 32, 3) := by decide +kernel
theorem dX5_repeat_6 : decode cX5_repeat 6 = .ok (.getfield 54, 3) := by decide +kernel
theorem dX5_repeat_9 : decode cX5_repeat 9 = .ok (.iconst 1, 1) := by decide +kernel
theorem dX5_repeat_10 : decode cX5_repeat 10 = .ok (.isub, 1) := by decide +kernel
theorem dX5_repeat_11 : decode cX5_repeat 11 = .ok (.invokestatic 60, 3) := by decide +kernel
theorem dX5_repeat_14 : decode cX5_repeat 14 = .ok (.ifCond .eq 12, 3) := by decide +kernel
theorem dX5_repeat_17 : decode cX5_repeat 17 = .ok (.iload_n 2, 1) := by decide +kernel
theorem dX5_repeat_18 : decode cX5_repeat 18 = .ok (.iconst 0, 1) := by decide +kernel
theorem dX5_repeat_19 : decode cX5_repeat 19 = .ok (.iconst 2, 1) := by decide +kernel
theorem dX5_repeat_20 : decode cX5_repeat 20 = .ok (.invokestatic 60, 3) := by decide +kernel
theorem dX5_repeat_23 : decode cX5_repeat 23 = .ok (.ifCond .ne 13, 3) := by decide +kernel
theorem dX5_repeat_26 : decode cX5_repeat 26 = .ok (.new 64, 3) := by decide +kernel
theorem dX5_repeat_29 : decode cX5_repeat 29 = .ok (.dup, 1) := by decide +kernel
theorem dX5_repeat_30 : decode cX5_repeat 30 = .ok (.ldc 108, 2) := by decide +kernel
theorem dX5_repeat_32 : decode cX5_repeat 32 = .ok (.invokespecial 68, 3) := by decide +kernel
theorem dX5_repeat_35 : decode cX5_repeat 35 = .ok (.athrow, 1) := by decide +kernel
theorem dX5_repeat_36 : decode cX5_repeat 36 = .ok (.aload_n 0, 1) := by decide +kernel
theorem dX5_repeat_37 : decode cX5_repeat 37 = .ok (.getfield 32, 3) := by decide +kernel
theorem dX5_repeat_40 : decode cX5_repeat 40 = .ok (.iload_n 1, 1) := by decide +kernel
theorem dX5_repeat_41 : decode cX5_repeat 41 = .ok (.iload_n 2, 1) := by decide +kernel
theorem dX5_repeat_42 : decode cX5_repeat 42 = .ok (.invokevirtual 110, 3) := by decide +kernel
theorem dX5_repeat_45 : decode cX5_repeat 45 = .ok (.ireturn, 1) := by decide +kernel
theorem dX5_passages_0 : decode cX5_passages 0 = .ok (.iload_n 1, 1) := by decide +kernel
theorem dX5_passages_1 : decode cX5_passages 1 = .ok (.invokestatic 82, 3) := by decide +kernel
theorem dX5_passages_4 : decode cX5_passages 4 = .ok (.ifCond .eq 13, 3) := by decide +kernel
theorem dX5_passages_7 : decode cX5_passages 7 = .ok (.iload_n 2, 1) := by decide +kernel
theorem dX5_passages_8 : decode cX5_passages 8 = .ok (.iconst 1, 1) := by decide +kernel
theorem dX5_passages_9 : decode cX5_passages 9 = .ok (.bipush 60, 2) := by decide +kernel
theorem dX5_passages_11 : decode cX5_passages 11 = .ok (.invokestatic 60, 3) := by decide +kernel
theorem dX5_passages_14 : decode cX5_passages 14 = .ok (.ifCond .ne 13, 3) := by decide +kernel
theorem dX5_passages_17 : decode cX5_passages 17 = .ok (.new 64, 3) := by decide +kernel
theorem dX5_passages_20 : decode cX5_passages 20 = .ok (.dup, 1) := by decide +kernel
theorem dX5_passages_21 : decode cX5_passages 21 = .ok (.ldc 114, 2) := by decide +kernel
theorem dX5_passages_23 : decode cX5_passages 23 = .ok (.invokespecial 68, 3) := by decide +kernel
theorem dX5_passages_26 : decode cX5_passages 26 = .ok (.athrow, 1) := by decide +kernel
theorem dX5_passages_27 : decode cX5_passages 27 = .ok (.aload_n 0, 1) := by decide +kernel
theorem dX5_passages_28 : decode cX5_passages 28 = .ok (.getfield 25, 3) := by decide +kernel
theorem dX5_passages_31 : decode cX5_passages 31 = .ok (.aload_n 0, 1) := by decide +kernel
theorem dX5_passages_32 : decode cX5_passages 32 = .ok (.getfield 10, 3) := by decide +kernel
theorem dX5_passages_35 : decode cX5_passages 35 = .ok (.iload_n 1, 1) := by decide +kernel
theorem dX5_passages_36 : decode cX5_passages 36 = .ok (.invokevirtual 100, 3) := by decide +kernel
theorem dX5_passages_39 : decode cX5_passages 39 = .ok (.aload_n 0, 1) := by decide +kernel
theorem dX5_passages_40 : decode cX5_passages 40 = .ok (.getfield 25, 3) := by decide +kernel
theorem dX5_passages_43 : decode cX5_passages 43 = .ok (.iload_n 2, 1) := by decide +kernel
theorem dX5_passages_44 : decode cX5_passages 44 = .ok (.invokevirtual 116, 3) := by decide +kernel
theorem dX5_passages_47 : decode cX5_passages 47 = .ok (.ireturn, 1) := by decide +kernel
theorem dX5_period_0 : decode cX5_period 0 = .ok (.iload_n 1, 1) := by decide +kernel
theorem dX5_period_1 : decode cX5_period 1 = .ok (.invokestatic 82, 3) := by decide +kernel
theorem dX5_period_4 : decode cX5_period 4 = .ok (.ifCond .ne 13, 3) := by decide +kernel
theorem dX5_period_7 : decode cX5_period 7 = .ok (.new 64, 3) := by decide +kernel
theorem dX5_period_10 : decode cX5_period 10 = .ok (.dup, 1) := by decide +kernel
theorem dX5_period_11 : decode cX5_period 11 = .ok (.ldc 86, 2) := by decide +kernel
theorem dX5_period_13 : decode cX5_period 13 = .ok (.invokespecial 68, 3) := by decide +kernel
theorem dX5_period_16 : decode cX5_period 16 = .ok (.athrow, 1) := by decide +kernel
theorem dX5_period_17 : decode cX5_period 17 = .ok (.aload_n 0, 1) := by decide +kernel
theorem dX5_period_18 : decode cX5_period 18 = .ok (.getfield 25, 3) := by decide +kernel
theorem dX5_period_21 : decode cX5_period 21 = .ok (.aload_n 0, 1) := by decide +kernel
theorem dX5_period_22 : decode cX5_period 22 = .ok (.getfield 10, 3) := by decide +kernel
theorem dX5_period_25 : decode cX5_period 25 = .ok (.iload_n 1, 1) := by decide +kernel
theorem dX5_period_26 : decode cX5_period 26 = .ok (.invokevirtual 100, 3) := by decide +kernel
theorem dX5_period_29 : decode cX5_period 29 = .ok (.aload_n 0, 1) := by decide +kernel
theorem dX5_period_30 : decode cX5_period 30 = .ok (.getfield 25, 3) := by decide +kernel
theorem dX5_period_33 : decode cX5_period 33 = .ok (.invokevirtual 120, 3) := by decide +kernel
theorem dX5_period_36 : decode cX5_period 36 = .ok (.ireturn, 1) := by decide +kernel
theorem dX5_alike_0 : decode cX5_alike 0 = .ok (.iload_n 1, 1) := by decide +kernel
theorem dX5_alike_1 : decode cX5_alike 1 = .ok (.invokestatic 82, 3) := by decide +kernel
theorem dX5_alike_4 : decode cX5_alike 4 = .ok (.ifCond .eq 8, 3) := by decide +kernel
theorem dX5_alike_7 : decode cX5_alike 7 = .ok (.iload 4, 2) := by decide +kernel
theorem dX5_alike_9 : decode cX5_alike 9 = .ok (.ifCond .ge 13, 3) := by decide +kernel
theorem dX5_alike_12 : decode cX5_alike 12 = .ok (.new 64, 3) := by decide +kernel
theorem dX5_alike_15 : decode cX5_alike 15 = .ok (.dup, 1) := by decide +kernel
theorem dX5_alike_16 : decode cX5_alike 16 = .ok (.ldc 114, 2) := by decide +kernel
theorem dX5_alike_18 : decode cX5_alike 18 = .ok (.invokespecial 68, 3) := by decide +kernel
theorem dX5_alike_21 : decode cX5_alike 21 = .ok (.athrow, 1) := by decide +kernel
theorem dX5_alike_22 : decode cX5_alike 22 = .ok (.aload_n 0, 1) := by decide +kernel
theorem dX5_alike_23 : decode cX5_alike 23 = .ok (.getfield 10, 3) := by decide +kernel
theorem dX5_alike_26 : decode cX5_alike 26 = .ok (.iload_n 1, 1) := by decide +kernel
theorem dX5_alike_27 : decode cX5_alike 27 = .ok (.invokestatic 88, 3) := by decide +kernel
theorem dX5_alike_30 : decode cX5_alike 30 = .ok (.iload 4, 2) := by decide +kernel
theorem dX5_alike_32 : decode cX5_alike 32 = .ok (.isub, 1) := by decide +kernel
theorem dX5_alike_33 : decode cX5_alike 33 = .ok (.istore 5, 2) := by decide +kernel
theorem dX5_alike_35 : decode cX5_alike 35 = .ok (.iload_n 2, 1) := by decide +kernel
theorem dX5_alike_36 : decode cX5_alike 36 = .ok (.iconst 0, 1) := by decide +kernel
theorem dX5_alike_37 : decode cX5_alike 37 = .ok (.iload 5, 2) := by decide +kernel
theorem dX5_alike_39 : decode cX5_alike 39 = .ok (.invokestatic 60, 3) := by decide +kernel
theorem dX5_alike_42 : decode cX5_alike 42 = .ok (.ifCond .eq 13, 3) := by decide +kernel
theorem dX5_alike_45 : decode cX5_alike 45 = .ok (.iload_n 3, 1) := by decide +kernel
theorem dX5_alike_46 : decode cX5_alike 46 = .ok (.iconst 0, 1) := by decide +kernel
theorem dX5_alike_47 : decode cX5_alike 47 = .ok (.iload 5, 2) := by decide +kernel
theorem dX5_alike_49 : decode cX5_alike 49 = .ok (.invokestatic 60, 3) := by decide +kernel
theorem dX5_alike_52 : decode cX5_alike 52 = .ok (.ifCond .ne 13, 3) := by decide +kernel
theorem dX5_alike_55 : decode cX5_alike 55 = .ok (.new 64, 3) := by decide +kernel
theorem dX5_alike_58 : decode cX5_alike 58 = .ok (.dup, 1) := by decide +kernel
theorem dX5_alike_59 : decode cX5_alike 59 = .ok (.ldc 124, 2) := by decide +kernel
theorem dX5_alike_61 : decode cX5_alike 61 = .ok (.invokespecial 68, 3) := by decide +kernel
theorem dX5_alike_64 : decode cX5_alike 64 = .ok (.athrow, 1) := by decide +kernel
theorem dX5_alike_65 : decode cX5_alike 65 = .ok (.iload 4, 2) := by decide +kernel
theorem dX5_alike_67 : decode cX5_alike 67 = .ok (.ifCond .ne 13, 3) := by decide +kernel
theorem dX5_alike_70 : decode cX5_alike 70 = .ok (.new 126, 3) := by decide +kernel
theorem dX5_alike_73 : decode cX5_alike 73 = .ok (.dup, 1) := by decide +kernel
theorem dX5_alike_74 : decode cX5_alike 74 = .ok (.ldc 128, 2) := by decide +kernel
theorem dX5_alike_76 : decode cX5_alike 76 = .ok (.invokespecial 130, 3) := by decide +kernel
theorem dX5_alike_79 : decode cX5_alike 79 = .ok (.athrow, 1) := by decide +kernel
theorem dX5_alike_80 : decode cX5_alike 80 = .ok (.aload_n 0, 1) := by decide +kernel
theorem dX5_alike_81 : decode cX5_alike 81 = .ok (.getfield 25, 3) := by decide +kernel
theorem dX5_alike_84 : decode cX5_alike 84 = .ok (.aload_n 0, 1) := by decide +kernel
theorem dX5_alike_85 : decode cX5_alike 85 = .ok (.getfield 10, 3) := by decide +kernel
theorem dX5_alike_88 : decode cX5_alike 88 = .ok (.iload_n 1, 1) := by decide +kernel
theorem dX5_alike_89 : decode cX5_alike 89 = .ok (.invokevirtual 100, 3) := by decide +kernel
theorem dX5_alike_92 : decode cX5_alike 92 = .ok (.bipush 100, 2) := by decide +kernel
theorem dX5_alike_94 : decode cX5_alike 94 = .ok (.aload_n 0, 1) := by decide +kernel
theorem dX5_alike_95 : decode cX5_alike 95 = .ok (.getfield 25, 3) := by decide +kernel
theorem dX5_alike_98 : decode cX5_alike 98 = .ok (.iload_n 2, 1) := by decide +kernel
theorem dX5_alike_99 : decode cX5_alike 99 = .ok (.iload_n 3, 1) := by decide +kernel
theorem dX5_alike_100 : decode cX5_alike 100 = .ok (.iload 4, 2) := by decide +kernel
theorem dX5_alike_102 : decode cX5_alike 102 = .ok (.invokevirtual 131, 3) := by decide +kernel
theorem dX5_alike_105 : decode cX5_alike 105 = .ok (.imul, 1) := by decide +kernel
theorem dX5_alike_106 : decode cX5_alike 106 = .ok (.iload 4, 2) := by decide +kernel
theorem dX5_alike_108 : decode cX5_alike 108 = .ok (.idiv, 1) := by decide +kernel
theorem dX5_alike_109 : decode cX5_alike 109 = .ok (.ireturn, 1) := by decide +kernel
theorem dX5_motive_0 : decode cX5_motive 0 = .ok (.iload_n 2, 1) := by decide +kernel
theorem dX5_motive_1 : decode cX5_motive 1 = .ok (.iconst 1, 1) := by decide +kernel
theorem dX5_motive_2 : decode cX5_motive 2 = .ok (.bipush 12, 2) := by decide +kernel
theorem dX5_motive_4 : decode cX5_motive 4 = .ok (.invokestatic 60, 3) := by decide +kernel
theorem dX5_motive_7 : decode cX5_motive 7 = .ok (.ifCond .eq 20, 3) := by decide +kernel
theorem dX5_motive_10 : decode cX5_motive 10 = .ok (.iload_n 1, 1) := by decide +kernel
theorem dX5_motive_11 : decode cX5_motive 11 = .ok (.iconst 0, 1) := by decide +kernel
theorem dX5_motive_12 : decode cX5_motive 12 = .ok (.aload_n 0, 1) := by decide +kernel
theorem dX5_motive_13 : decode cX5_motive 13 = .ok (.getfield 10, 3) := by decide +kernel
theorem dX5_motive_16 : decode cX5_motive 16 = .ok (.getfield 50, 3) := by decide +kernel
theorem dX5_motive_19 : decode cX5_motive 19 = .ok (.iload_n 2, 1) := by decide +kernel
theorem dX5_motive_20 : decode cX5_motive 20 = .ok (.isub, 1) := by decide +kernel
theorem dX5_motive_21 : decode cX5_motive 21 = .ok (.invokestatic 60, 3) := by decide +kernel
theorem dX5_motive_24 : decode cX5_motive 24 = .ok (.ifCond .ne 13, 3) := by decide +kernel
theorem dX5_motive_27 : decode cX5_motive 27 = .ok (.new 64, 3) := by decide +kernel
theorem dX5_motive_30 : decode cX5_motive 30 = .ok (.dup, 1) := by decide +kernel
theorem dX5_motive_31 : decode cX5_motive 31 = .ok (.ldc 135, 2) := by decide +kernel
theorem dX5_motive_33 : decode cX5_motive 33 = .ok (.invokespecial 68, 3) := by decide +kernel
theorem dX5_motive_36 : decode cX5_motive 36 = .ok (.athrow, 1) := by decide +kernel
theorem dX5_motive_37 : decode cX5_motive 37 = .ok (.aload_n 0, 1) := by decide +kernel
theorem dX5_motive_38 : decode cX5_motive 38 = .ok (.getfield 16, 3) := by decide +kernel
theorem dX5_motive_41 : decode cX5_motive 41 = .ok (.iconst 0, 1) := by decide +kernel
theorem dX5_motive_42 : decode cX5_motive 42 = .ok (.putfield 50, 3) := by decide +kernel
theorem dX5_motive_45 : decode cX5_motive 45 = .ok (.iload_n 1, 1) := by decide +kernel
theorem dX5_motive_46 : decode cX5_motive 46 = .ok (.istore_n 3, 1) := by decide +kernel
theorem dX5_motive_47 : decode cX5_motive 47 = .ok (.iload_n 3, 1) := by decide +kernel
theorem dX5_motive_48 : decode cX5_motive 48 = .ok (.iload_n 1, 1) := by decide +kernel
theorem dX5_motive_49 : decode cX5_motive 49 = .ok (.iload_n 2, 1) := by decide +kernel
theorem dX5_motive_50 : decode cX5_motive 50 = .ok (.iadd, 1) := by decide +kernel
theorem dX5_motive_51 : decode cX5_motive 51 = .ok (.if_icmp .ge 34, 3) := by decide +kernel
theorem dX5_motive_54 : decode cX5_motive 54 = .ok (.aload_n 0, 1) := by decide +kernel
theorem dX5_motive_55 : decode cX5_motive 55 = .ok (.getfield 16, 3) := by decide +kernel
theorem dX5_motive_58 : decode cX5_motive 58 = .ok (.aload_n 0, 1) := by decide +kernel
theorem dX5_motive_59 : decode cX5_motive 59 = .ok (.getfield 10, 3) := by decide +kernel
theorem dX5_motive_62 : decode cX5_motive 62 = .ok (.getfield 137, 3) := by decide +kernel
theorem dX5_motive_65 : decode cX5_motive 65 = .ok (.iload_n 3, 1) := by decide +kernel
theorem dX5_motive_66 : decode cX5_motive 66 = .ok (.iaload, 1) := by decide +kernel
theorem dX5_motive_67 : decode cX5_motive 67 = .ok (.aload_n 0, 1) := by decide +kernel
theorem dX5_motive_68 : decode cX5_motive 68 = .ok (.getfield 10, 3) := by decide +kernel
theorem dX5_motive_71 : decode cX5_motive 71 = .ok (.getfield 141, 3) := by decide +kernel
theorem dX5_motive_74 : decode cX5_motive 74 = .ok (.iload_n 3, 1) := by decide +kernel
theorem dX5_motive_75 : decode cX5_motive 75 = .ok (.iaload, 1) := by decide +kernel
theorem dX5_motive_76 : decode cX5_motive 76 = .ok (.invokevirtual 76, 3) := by decide +kernel
theorem dX5_motive_79 : decode cX5_motive 79 = .ok (.iinc 3 1, 3) := by decide +kernel
theorem dX5_motive_82 : decode cX5_motive 82 = .ok (.goto (-35), 3) := by decide +kernel
theorem dX5_motive_85 : decode cX5_motive 85 = .ok (.aload_n 0, 1) := by decide +kernel
theorem dX5_motive_86 : decode cX5_motive 86 = .ok (.getfield 16, 3) := by decide +kernel
theorem dX5_motive_89 : decode cX5_motive 89 = .ok (.getfield 137, 3) := by decide +kernel
theorem dX5_motive_92 : decode cX5_motive 92 = .ok (.iconst 0, 1) := by decide +kernel
theorem dX5_motive_93 : decode cX5_motive 93 = .ok (.iaload, 1) := by decide +kernel
theorem dX5_motive_94 : decode cX5_motive 94 = .ok (.ireturn, 1) := by decide +kernel
theorem dX5_form_0 : decode cX5_form 0 = .ok (.iload_n 1, 1) := by decide +kernel
theorem dX5_form_1 : decode cX5_form 1 = .ok (.invokestatic 144, 3) := by decide +kernel
theorem dX5_form_4 : decode cX5_form 4 = .ok (.ifCond .eq 29, 3) := by decide +kernel
theorem dX5_form_7 : decode cX5_form 7 = .ok (.iload_n 2, 1) := by decide +kernel
theorem dX5_form_8 : decode cX5_form 8 = .ok (.iconst 0, 1) := by decide +kernel
theorem dX5_form_9 : decode cX5_form 9 = .ok (.aload_n 0, 1) := by decide +kernel
theorem dX5_form_10 : decode cX5_form 10 = .ok (.getfield 16, 3) := by decide +kernel
theorem dX5_form_13 : decode cX5_form 13 = .ok (.getfield 50, 3) := by decide +kernel
theorem dX5_form_16 : decode cX5_form 16 = .ok (.iconst 1, 1) := by decide +kernel
theorem dX5_form_17 : decode cX5_form 17 = .ok (.isub, 1) := by decide +kernel
theorem dX5_form_18 : decode cX5_form 18 = .ok (.invokestatic 60, 3) := by decide +kernel
theorem dX5_form_21 : decode cX5_form 21 = .ok (.ifCond .eq 12, 3) := by decide +kernel
theorem dX5_form_24 : decode cX5_form 24 = .ok (.iload_n 3, 1) := by decide +kernel
theorem dX5_form_25 : decode cX5_form 25 = .ok (.iconst 0, 1) := by decide +kernel
theorem dX5_form_26 : decode cX5_form 26 = .ok (.iconst 1, 1) := by decide +kernel
theorem dX5_form_27 : decode cX5_form 27 = .ok (.invokestatic 60, 3) := by decide +kernel
theorem dX5_form_30 : decode cX5_form 30 = .ok (.ifCond .ne 13, 3) := by decide +kernel
theorem dX5_form_33 : decode cX5_form 33 = .ok (.new 64, 3) := by decide +kernel
theorem dX5_form_36 : decode cX5_form 36 = .ok (.dup, 1) := by decide +kernel
theorem dX5_form_37 : decode cX5_form 37 = .ok (.ldc 147, 2) := by decide +kernel
theorem dX5_form_39 : decode cX5_form 39 = .ok (.invokespecial 68, 3) := by decide +kernel
theorem dX5_form_42 : decode cX5_form 42 = .ok (.athrow, 1) := by decide +kernel
theorem dX5_form_43 : decode cX5_form 43 = .ok (.iload_n 3, 1) := by decide +kernel
theorem dX5_form_44 : decode cX5_form 44 = .ok (.ifCond .ne 12, 3) := by decide +kernel
theorem dX5_form_47 : decode cX5_form 47 = .ok (.aload_n 0, 1) := by decide +kernel
theorem dX5_form_48 : decode cX5_form 48 = .ok (.iload_n 1, 1) := by decide +kernel
theorem dX5_form_49 : decode cX5_form 49 = .ok (.iload_n 2, 1) := by decide +kernel
theorem dX5_form_50 : decode cX5_form 50 = .ok (.invokevirtual 149, 3) := by decide +kernel
theorem dX5_form_53 : decode cX5_form 53 = .ok (.goto 9, 3) := by decide +kernel
theorem dX5_form_56 : decode cX5_form 56 = .ok (.aload_n 0, 1) := by decide +kernel
theorem dX5_form_57 : decode cX5_form 57 = .ok (.iload_n 1, 1) := by decide +kernel
theorem dX5_form_58 : decode cX5_form 58 = .ok (.iload_n 2, 1) := by decide +kernel
theorem dX5_form_59 : decode cX5_form 59 = .ok (.invokevirtual 152, 3) := by decide +kernel
theorem dX5_form_62 : decode cX5_form 62 = .ok (.ireturn, 1) := by decide +kernel
theorem dX5_find_0 : decode cX5_find 0 = .ok (.iload_n 1, 1) := by decide +kernel
theorem dX5_find_1 : decode cX5_find 1 = .ok (.invokestatic 144, 3) := by decide +kernel
theorem dX5_find_4 : decode cX5_find 4 = .ok (.ifCond .eq 11, 3) := by decide +kernel
theorem dX5_find_7 : decode cX5_find 7 = .ok (.iload_n 2, 1) := by decide +kernel
theorem dX5_find_8 : decode cX5_find 8 = .ok (.iload_n 3, 1) := by decide +kernel
theorem dX5_find_9 : decode cX5_find 9 = .ok (.invokestatic 155, 3) := by decide +kernel
theorem dX5_find_12 : decode cX5_find 12 = .ok (.ifCond .ne 13, 3) := by decide +kernel
theorem dX5_find_15 : decode cX5_find 15 = .ok (.new 64, 3) := by decide +kernel
theorem dX5_find_18 : decode cX5_find 18 = .ok (.dup, 1) := by decide +kernel
theorem dX5_find_19 : decode cX5_find 19 = .ok (.ldc 159, 2) := by decide +kernel
theorem dX5_find_21 : decode cX5_find 21 = .ok (.invokespecial 68, 3) := by decide +kernel
theorem dX5_find_24 : decode cX5_find 24 = .ok (.athrow, 1) := by decide +kernel
theorem dX5_find_25 : decode cX5_find 25 = .ok (.aload_n 0, 1) := by decide +kernel
theorem dX5_find_26 : decode cX5_find 26 = .ok (.getfield 16, 3) := by decide +kernel
theorem dX5_find_29 : decode cX5_find 29 = .ok (.getfield 50, 3) := by decide +kernel
theorem dX5_find_32 : decode cX5_find 32 = .ok (.ifCond .ne 13, 3) := by decide +kernel
theorem dX5_find_35 : decode cX5_find 35 = .ok (.new 71, 3) := by decide +kernel
theorem dX5_find_38 : decode cX5_find 38 = .ok (.dup, 1) := by decide +kernel
theorem dX5_find_39 : decode cX5_find 39 = .ok (.ldc 161, 2) := by decide +kernel
theorem dX5_find_41 : decode cX5_find 41 = .ok (.invokespecial 75, 3) := by decide +kernel
theorem dX5_find_44 : decode cX5_find 44 = .ok (.athrow, 1) := by decide +kernel
theorem dX5_find_45 : decode cX5_find 45 = .ok (.aload_n 0, 1) := by decide +kernel
theorem dX5_find_46 : decode cX5_find 46 = .ok (.getfield 19, 3) := by decide +kernel
theorem dX5_find_49 : decode cX5_find 49 = .ok (.iconst 0, 1) := by decide +kernel
theorem dX5_find_50 : decode cX5_find 50 = .ok (.putfield 50, 3) := by decide +kernel
theorem dX5_find_53 : decode cX5_find 53 = .ok (.iconst 0, 1) := by decide +kernel
theorem dX5_find_54 : decode cX5_find 54 = .ok (.istore 4, 2) := by decide +kernel
theorem dX5_find_56 : decode cX5_find 56 = .ok (.iload 4, 2) := by decide +kernel
theorem dX5_find_58 : decode cX5_find 58 = .ok (.aload_n 0, 1) := by decide +kernel
theorem dX5_find_59 : decode cX5_find 59 = .ok (.getfield 16, 3) := by decide +kernel
theorem dX5_find_62 : decode cX5_find 62 = .ok (.getfield 50, 3) := by decide +kernel
theorem dX5_find_65 : decode cX5_find 65 = .ok (.if_icmp .ge 30, 3) := by decide +kernel
theorem dX5_find_68 : decode cX5_find 68 = .ok (.aload_n 0, 1) := by decide +kernel
theorem dX5_find_69 : decode cX5_find 69 = .ok (.getfield 19, 3) := by decide +kernel
theorem dX5_find_72 : decode cX5_find 72 = .ok (.aload_n 0, 1) := by decide +kernel
theorem dX5_find_73 : decode cX5_find 73 = .ok (.iload_n 1, 1) := by decide +kernel
theorem dX5_find_74 : decode cX5_find 74 = .ok (.iload 4, 2) := by decide +kernel
theorem dX5_find_76 : decode cX5_find 76 = .ok (.invokevirtual 149, 3) := by decide +kernel
theorem dX5_find_79 : decode cX5_find 79 = .ok (.aload_n 0, 1) := by decide +kernel
theorem dX5_find_80 : decode cX5_find 80 = .ok (.iload_n 1, 1) := by decide +kernel
theorem dX5_find_81 : decode cX5_find 81 = .ok (.iload 4, 2) := by decide +kernel
theorem dX5_find_83 : decode cX5_find 83 = .ok (.invokevirtual 152, 3) := by decide +kernel
theorem dX5_find_86 : decode cX5_find 86 = .ok (.invokevirtual 76, 3) := by decide +kernel
theorem dX5_find_89 : decode cX5_find 89 = .ok (.iinc 4 1, 3) := by decide +kernel
theorem dX5_find_92 : decode cX5_find 92 = .ok (.goto (-36), 3) := by decide +kernel
theorem dX5_find_95 : decode cX5_find 95 = .ok (.aload_n 0, 1) := by decide +kernel
theorem dX5_find_96 : decode cX5_find 96 = .ok (.iload_n 2, 1) := by decide +kernel
theorem dX5_find_97 : decode cX5_find 97 = .ok (.iload_n 3, 1) := by decide +kernel
theorem dX5_find_98 : decode cX5_find 98 = .ok (.invokevirtual 163, 3) := by decide +kernel
theorem dX5_find_101 : decode cX5_find 101 = .ok (.aload_n 0, 1) := by decide +kernel
theorem dX5_find_102 : decode cX5_find 102 = .ok (.getfield 39, 3) := by decide +kernel
theorem dX5_find_105 : decode cX5_find 105 = .ok (.getfield 55, 3) := by decide +kernel
theorem dX5_find_108 : decode cX5_find 108 = .ok (.ireturn, 1) := by decide +kernel
theorem dX5_answer_0 : decode cX5_answer 0 = .ok (.iload_n 1, 1) := by decide +kernel
theorem dX5_answer_1 : decode cX5_answer 1 = .ok (.iload_n 2, 1) := by decide +kernel
theorem dX5_answer_2 : decode cX5_answer 2 = .ok (.invokestatic 166, 3) := by decide +kernel
theorem dX5_answer_5 : decode cX5_answer 5 = .ok (.ifCond .eq 20, 3) := by decide +kernel
theorem dX5_answer_8 : decode cX5_answer 8 = .ok (.iload_n 3, 1) := by decide +kernel
theorem dX5_answer_9 : decode cX5_answer 9 = .ok (.iconst 0, 1) := by decide +kernel
theorem dX5_answer_10 : decode cX5_answer 10 = .ok (.aload_n 0, 1) := by decide +kernel
theorem dX5_answer_11 : decode cX5_answer 11 = .ok (.getfield 16, 3) := by decide +kernel
theorem dX5_answer_14 : decode cX5_answer 14 = .ok (.getfield 50, 3) := by decide +kernel
theorem dX5_answer_17 : decode cX5_answer 17 = .ok (.iconst 1, 1) := by decide +kernel
theorem dX5_answer_18 : decode cX5_answer 18 = .ok (.isub, 1) := by decide +kernel
theorem dX5_answer_19 : decode cX5_answer 19 = .ok (.invokestatic 60, 3) := by decide +kernel
theorem dX5_answer_22 : decode cX5_answer 22 = .ok (.ifCond .ne 13, 3) := by decide +kernel
theorem dX5_answer_25 : decode cX5_answer 25 = .ok (.new 64, 3) := by decide +kernel
theorem dX5_answer_28 : decode cX5_answer 28 = .ok (.dup, 1) := by decide +kernel
theorem dX5_answer_29 : decode cX5_answer 29 = .ok (.ldc 169, 2) := by decide +kernel
theorem dX5_answer_31 : decode cX5_answer 31 = .ok (.invokespecial 68, 3) := by decide +kernel
theorem dX5_answer_34 : decode cX5_answer 34 = .ok (.athrow, 1) := by decide +kernel
theorem dX5_answer_35 : decode cX5_answer 35 = .ok (.aload_n 0, 1) := by decide +kernel
theorem dX5_answer_36 : decode cX5_answer 36 = .ok (.iload_n 1, 1) := by decide +kernel
theorem dX5_answer_37 : decode cX5_answer 37 = .ok (.iload_n 2, 1) := by decide +kernel
theorem dX5_answer_38 : decode cX5_answer 38 = .ok (.iload_n 3, 1) := by decide +kernel
theorem dX5_answer_39 : decode cX5_answer 39 = .ok (.invokevirtual 171, 3) := by decide +kernel
theorem dX5_answer_42 : decode cX5_answer 42 = .ok (.ireturn, 1) := by decide +kernel
theorem dX5_entries_0 : decode cX5_entries 0 = .ok (.iload_n 1, 1) := by decide +kernel
theorem dX5_entries_1 : decode cX5_entries 1 = .ok (.iload_n 2, 1) := by decide +kernel
theorem dX5_entries_2 : decode cX5_entries 2 = .ok (.invokestatic 166, 3) := by decide +kernel
theorem dX5_entries_5 : decode cX5_entries 5 = .ok (.ifCond .ne 13, 3) := by decide +kernel
theorem dX5_entries_8 : decode cX5_entries 8 = .ok (.new 64, 3) := by decide +kernel
theorem dX5_entries_11 : decode cX5_entries 11 = .ok (.dup, 1) := by decide +kernel
theorem dX5_entries_12 : decode cX5_entries 12 = .ok (.ldc 174, 2) := by decide +kernel
theorem dX5_entries_14 : decode cX5_entries 14 = .ok (.invokespecial 68, 3) := by decide +kernel
theorem dX5_entries_17 : decode cX5_entries 17 = .ok (.athrow, 1) := by decide +kernel
theorem dX5_entries_18 : decode cX5_entries 18 = .ok (.aload_n 0, 1) := by decide +kernel
theorem dX5_entries_19 : decode cX5_entries 19 = .ok (.getfield 16, 3) := by decide +kernel
theorem dX5_entries_22 : decode cX5_entries 22 = .ok (.getfield 50, 3) := by decide +kernel
theorem dX5_entries_25 : decode cX5_entries 25 = .ok (.ifCond .ne 13, 3) := by decide +kernel
theorem dX5_entries_28 : decode cX5_entries 28 = .ok (.new 71, 3) := by decide +kernel
theorem dX5_entries_31 : decode cX5_entries 31 = .ok (.dup, 1) := by decide +kernel
theorem dX5_entries_32 : decode cX5_entries 32 = .ok (.ldc 161, 2) := by decide +kernel
theorem dX5_entries_34 : decode cX5_entries 34 = .ok (.invokespecial 75, 3) := by decide +kernel
theorem dX5_entries_37 : decode cX5_entries 37 = .ok (.athrow, 1) := by decide +kernel
theorem dX5_entries_38 : decode cX5_entries 38 = .ok (.aload_n 0, 1) := by decide +kernel
theorem dX5_entries_39 : decode cX5_entries 39 = .ok (.getfield 19, 3) := by decide +kernel
theorem dX5_entries_42 : decode cX5_entries 42 = .ok (.iconst 0, 1) := by decide +kernel
theorem dX5_entries_43 : decode cX5_entries 43 = .ok (.putfield 50, 3) := by decide +kernel
theorem dX5_entries_46 : decode cX5_entries 46 = .ok (.iconst 0, 1) := by decide +kernel
theorem dX5_entries_47 : decode cX5_entries 47 = .ok (.istore_n 3, 1) := by decide +kernel
theorem dX5_entries_48 : decode cX5_entries 48 = .ok (.iload_n 3, 1) := by decide +kernel
theorem dX5_entries_49 : decode cX5_entries 49 = .ok (.aload_n 0, 1) := by decide +kernel
theorem dX5_entries_50 : decode cX5_entries 50 = .ok (.getfield 16, 3) := by decide +kernel
theorem dX5_entries_53 : decode cX5_entries 53 = .ok (.getfield 50, 3) := by decide +kernel
theorem dX5_entries_56 : decode cX5_entries 56 = .ok (.if_icmp .ge 32, 3) := by decide +kernel
theorem dX5_entries_59 : decode cX5_entries 59 = .ok (.aload_n 0, 1) := by decide +kernel
theorem dX5_entries_60 : decode cX5_entries 60 = .ok (.getfield 19, 3) := by decide +kernel
theorem dX5_entries_63 : decode cX5_entries 63 = .ok (.aload_n 0, 1) := by decide +kernel
theorem dX5_entries_64 : decode cX5_entries 64 = .ok (.iload_n 1, 1) := by decide +kernel
theorem dX5_entries_65 : decode cX5_entries 65 = .ok (.iload_n 2, 1) := by decide +kernel
theorem dX5_entries_66 : decode cX5_entries 66 = .ok (.iload_n 3, 1) := by decide +kernel
theorem dX5_entries_67 : decode cX5_entries 67 = .ok (.invokevirtual 171, 3) := by decide +kernel
theorem dX5_entries_70 : decode cX5_entries 70 = .ok (.aload_n 0, 1) := by decide +kernel
theorem dX5_entries_71 : decode cX5_entries 71 = .ok (.getfield 16, 3) := by decide +kernel
theorem dX5_entries_74 : decode cX5_entries 74 = .ok (.getfield 141, 3) := by decide +kernel
theorem dX5_entries_77 : decode cX5_entries 77 = .ok (.iload_n 3, 1) := by decide +kernel
theorem dX5_entries_78 : decode cX5_entries 78 = .ok (.iaload, 1) := by decide +kernel
theorem dX5_entries_79 : decode cX5_entries 79 = .ok (.invokevirtual 76, 3) := by decide +kernel
theorem dX5_entries_82 : decode cX5_entries 82 = .ok (.iinc 3 1, 3) := by decide +kernel
theorem dX5_entries_85 : decode cX5_entries 85 = .ok (.goto (-37), 3) := by decide +kernel
theorem dX5_entries_88 : decode cX5_entries 88 = .ok (.aload_n 0, 1) := by decide +kernel
theorem dX5_entries_89 : decode cX5_entries 89 = .ok (.iconst 0, 1) := by decide +kernel
theorem dX5_entries_90 : decode cX5_entries 90 = .ok (.iconst 0, 1) := by decide +kernel
theorem dX5_entries_91 : decode cX5_entries 91 = .ok (.invokevirtual 163, 3) := by decide +kernel
theorem dX5_entries_94 : decode cX5_entries 94 = .ok (.aload_n 0, 1) := by decide +kernel
theorem dX5_entries_95 : decode cX5_entries 95 = .ok (.getfield 39, 3) := by decide +kernel
theorem dX5_entries_98 : decode cX5_entries 98 = .ok (.getfield 55, 3) := by decide +kernel
theorem dX5_entries_101 : decode cX5_entries 101 = .ok (.ireturn, 1) := by decide +kernel
theorem dX5_found_0 : decode cX5_found 0 = .ok (.iload_n 1, 1) := by decide +kernel
theorem dX5_found_1 : decode cX5_found 1 = .ok (.ifCond .ge 13, 3) := by decide +kernel
theorem dX5_found_4 : decode cX5_found 4 = .ok (.new 64, 3) := by decide +kernel
theorem dX5_found_7 : decode cX5_found 7 = .ok (.dup, 1) := by decide +kernel
theorem dX5_found_8 : decode cX5_found 8 = .ok (.ldc 176, 2) := by decide +kernel
theorem dX5_found_10 : decode cX5_found 10 = .ok (.invokespecial 68, 3) := by decide +kernel
theorem dX5_found_13 : decode cX5_found 13 = .ok (.athrow, 1) := by decide +kernel
theorem dX5_found_14 : decode cX5_found 14 = .ok (.iload_n 1, 1) := by decide +kernel
theorem dX5_found_15 : decode cX5_found 15 = .ok (.aload_n 0, 1) := by decide +kernel
theorem dX5_found_16 : decode cX5_found 16 = .ok (.getfield 39, 3) := by decide +kernel
theorem dX5_found_19 : decode cX5_found 19 = .ok (.getfield 55, 3) := by decide +kernel
theorem dX5_found_22 : decode cX5_found 22 = .ok (.if_icmp .ge 15, 3) := by decide +kernel
theorem dX5_found_25 : decode cX5_found 25 = .ok (.aload_n 0, 1) := by decide +kernel
theorem dX5_found_26 : decode cX5_found 26 = .ok (.getfield 39, 3) := by decide +kernel
theorem dX5_found_29 : decode cX5_found 29 = .ok (.getfield 178, 3) := by decide +kernel
theorem dX5_found_32 : decode cX5_found 32 = .ok (.iload_n 1, 1) := by decide +kernel
theorem dX5_found_33 : decode cX5_found 33 = .ok (.iaload, 1) := by decide +kernel
theorem dX5_found_34 : decode cX5_found 34 = .ok (.goto 4, 3) := by decide +kernel
theorem dX5_found_37 : decode cX5_found 37 = .ok (.iconst (-1), 1) := by decide +kernel
theorem dX5_found_38 : decode cX5_found 38 = .ok (.ireturn, 1) := by decide +kernel
theorem dX5_sections_0 : decode cX5_sections 0 = .ok (.iload_n 1, 1) := by decide +kernel
theorem dX5_sections_1 : decode cX5_sections 1 = .ok (.iconst 0, 1) := by decide +kernel
theorem dX5_sections_2 : decode cX5_sections 2 = .ok (.sipush 1000, 3) := by decide +kernel
theorem dX5_sections_5 : decode cX5_sections 5 = .ok (.invokestatic 60, 3) := by decide +kernel
theorem dX5_sections_8 : decode cX5_sections 8 = .ok (.ifCond .eq 13, 3) := by decide +kernel
theorem dX5_sections_11 : decode cX5_sections 11 = .ok (.iload_n 2, 1) := by decide +kernel
theorem dX5_sections_12 : decode cX5_sections 12 = .ok (.iconst 0, 1) := by decide +kernel
theorem dX5_sections_13 : decode cX5_sections 13 = .ok (.bipush 100, 2) := by decide +kernel
theorem dX5_sections_15 : decode cX5_sections 15 = .ok (.invokestatic 60, 3) := by decide +kernel
theorem dX5_sections_18 : decode cX5_sections 18 = .ok (.ifCond .ne 13, 3) := by decide +kernel
theorem dX5_sections_21 : decode cX5_sections 21 = .ok (.new 64, 3) := by decide +kernel
theorem dX5_sections_24 : decode cX5_sections 24 = .ok (.dup, 1) := by decide +kernel
theorem dX5_sections_25 : decode cX5_sections 25 = .ok (.ldc 181, 2) := by decide +kernel
theorem dX5_sections_27 : decode cX5_sections 27 = .ok (.invokespecial 68, 3) := by decide +kernel
theorem dX5_sections_30 : decode cX5_sections 30 = .ok (.athrow, 1) := by decide +kernel
theorem dX5_sections_31 : decode cX5_sections 31 = .ok (.aload_n 0, 1) := by decide +kernel
theorem dX5_sections_32 : decode cX5_sections 32 = .ok (.getfield 46, 3) := by decide +kernel
theorem dX5_sections_35 : decode cX5_sections 35 = .ok (.aload_n 0, 1) := by decide +kernel
theorem dX5_sections_36 : decode cX5_sections 36 = .ok (.getfield 10, 3) := by decide +kernel
theorem dX5_sections_39 : decode cX5_sections 39 = .ok (.iload_n 1, 1) := by decide +kernel
theorem dX5_sections_40 : decode cX5_sections 40 = .ok (.iload_n 2, 1) := by decide +kernel
theorem dX5_sections_41 : decode cX5_sections 41 = .ok (.invokevirtual 183, 3) := by decide +kernel
theorem dX5_sections_44 : decode cX5_sections 44 = .ok (.aload_n 0, 1) := by decide +kernel
theorem dX5_sections_45 : decode cX5_sections 45 = .ok (.getfield 46, 3) := by decide +kernel
theorem dX5_sections_48 : decode cX5_sections 48 = .ok (.getfield 56, 3) := by decide +kernel
theorem dX5_sections_51 : decode cX5_sections 51 = .ok (.ireturn, 1) := by decide +kernel
theorem dX5_section_0 : decode cX5_section 0 = .ok (.iload_n 1, 1) := by decide +kernel
theorem dX5_section_1 : decode cX5_section 1 = .ok (.ifCond .ge 13, 3) := by decide +kernel
theorem dX5_section_4 : decode cX5_section 4 = .ok (.new 64, 3) := by decide +kernel
theorem dX5_section_7 : decode cX5_section 7 = .ok (.dup, 1) := by decide +kernel
theorem dX5_section_8 : decode cX5_section 8 = .ok (.ldc 176, 2) := by decide +kernel
theorem dX5_section_10 : decode cX5_section 10 = .ok (.invokespecial 68, 3) := by decide +kernel
theorem dX5_section_13 : decode cX5_section 13 = .ok (.athrow, 1) := by decide +kernel
theorem dX5_section_14 : decode cX5_section 14 = .ok (.iload_n 1, 1) := by decide +kernel
theorem dX5_section_15 : decode cX5_section 15 = .ok (.aload_n 0, 1) := by decide +kernel
theorem dX5_section_16 : decode cX5_section 16 = .ok (.getfield 46, 3) := by decide +kernel
theorem dX5_section_19 : decode cX5_section 19 = .ok (.getfield 56, 3) := by decide +kernel
theorem dX5_section_22 : decode cX5_section 22 = .ok (.if_icmp .ge 15, 3) := by decide +kernel
theorem dX5_section_25 : decode cX5_section 25 = .ok (.aload_n 0, 1) := by decide +kernel
theorem dX5_section_26 : decode cX5_section 26 = .ok (.getfield 46, 3) := by decide +kernel
theorem dX5_section_29 : decode cX5_section 29 = .ok (.getfield 187, 3) := by decide +kernel
theorem dX5_section_32 : decode cX5_section 32 = .ok (.iload_n 1, 1) := by decide +kernel
theorem dX5_section_33 : decode cX5_section 33 = .ok (.iaload, 1) := by decide +kernel
theorem dX5_section_34 : decode cX5_section 34 = .ok (.goto 4, 3) := by decide +kernel
theorem dX5_section_37 : decode cX5_section 37 = .ok (.iconst (-1), 1) := by decide +kernel
theorem dX5_section_38 : decode cX5_section 38 = .ok (.ireturn, 1) := by decide +kernel
theorem dX5_of_0 : decode cX5_of 0 = .ok (.iload_n 1, 1) := by decide +kernel
theorem dX5_of_1 : decode cX5_of 1 = .ok (.tableswitch 75 0 4 #[35, 43, 51, 59, 67], 35) := by decide +kernel
theorem dX5_of_36 : decode cX5_of 36 = .ok (.aload_n 0, 1) := by decide +kernel
theorem dX5_of_37 : decode cX5_of 37 = .ok (.getfield 10, 3) := by decide +kernel
theorem dX5_of_40 : decode cX5_of 40 = .ok (.getfield 50, 3) := by decide +kernel
theorem dX5_of_43 : decode cX5_of 43 = .ok (.ireturn, 1) := by decide +kernel
theorem dX5_of_44 : decode cX5_of 44 = .ok (.aload_n 0, 1) := by decide +kernel
theorem dX5_of_45 : decode cX5_of 45 = .ok (.getfield 16, 3) := by decide +kernel
theorem dX5_of_48 : decode cX5_of 48 = .ok (.getfield 50, 3) := by decide +kernel
theorem dX5_of_51 : decode cX5_of 51 = .ok (.ireturn, 1) := by decide +kernel
theorem dX5_of_52 : decode cX5_of 52 = .ok (.aload_n 0, 1) := by decide +kernel
theorem dX5_of_53 : decode cX5_of 53 = .ok (.getfield 46, 3) := by decide +kernel
theorem dX5_of_56 : decode cX5_of 56 = .ok (.getfield 57, 3) := by decide +kernel
theorem dX5_of_59 : decode cX5_of 59 = .ok (.ireturn, 1) := by decide +kernel
theorem dX5_of_60 : decode cX5_of 60 = .ok (.aload_n 0, 1) := by decide +kernel
theorem dX5_of_61 : decode cX5_of 61 = .ok (.getfield 39, 3) := by decide +kernel
theorem dX5_of_64 : decode cX5_of 64 = .ok (.getfield 55, 3) := by decide +kernel
theorem dX5_of_67 : decode cX5_of 67 = .ok (.ireturn, 1) := by decide +kernel
theorem dX5_of_68 : decode cX5_of 68 = .ok (.aload_n 0, 1) := by decide +kernel
theorem dX5_of_69 : decode cX5_of 69 = .ok (.getfield 32, 3) := by decide +kernel
theorem dX5_of_72 : decode cX5_of 72 = .ok (.getfield 54, 3) := by decide +kernel
theorem dX5_of_75 : decode cX5_of 75 = .ok (.ireturn, 1) := by decide +kernel
theorem dX5_of_76 : decode cX5_of 76 = .ok (.new 64, 3) := by decide +kernel
theorem dX5_of_79 : decode cX5_of 79 = .ok (.dup, 1) := by decide +kernel
theorem dX5_of_80 : decode cX5_of 80 = .ok (.ldc 188, 2) := by decide +kernel
theorem dX5_of_82 : decode cX5_of 82 = .ok (.invokespecial 68, 3) := by decide +kernel
theorem dX5_of_85 : decode cX5_of 85 = .ok (.athrow, 1) := by decide +kernel
theorem dX5_isWithin_0 : decode cX5_isWithin 0 = .ok (.iload_n 0, 1) := by decide +kernel
theorem dX5_isWithin_1 : decode cX5_isWithin 1 = .ok (.iload_n 1, 1) := by decide +kernel
theorem dX5_isWithin_2 : decode cX5_isWithin 2 = .ok (.if_icmp .lt 12, 3) := by decide +kernel
theorem dX5_isWithin_5 : decode cX5_isWithin 5 = .ok (.iload_n 0, 1) := by decide +kernel
theorem dX5_isWithin_6 : decode cX5_isWithin 6 = .ok (.iload_n 2, 1) := by decide +kernel
theorem dX5_isWithin_7 : decode cX5_isWithin 7 = .ok (.if_icmp .gt 7, 3) := by decide +kernel
theorem dX5_isWithin_10 : decode cX5_isWithin 10 = .ok (.iconst 1, 1) := by decide +kernel
theorem dX5_isWithin_11 : decode cX5_isWithin 11 = .ok (.goto 4, 3) := by decide +kernel
theorem dX5_isWithin_14 : decode cX5_isWithin 14 = .ok (.iconst 0, 1) := by decide +kernel
theorem dX5_isWithin_15 : decode cX5_isWithin 15 = .ok (.ireturn, 1) := by decide +kernel
theorem dX5_isView_0 : decode cX5_isView 0 = .ok (.iload_n 0, 1) := by decide +kernel
theorem dX5_isView_1 : decode cX5_isView 1 = .ok (.iconst 0, 1) := by decide +kernel
theorem dX5_isView_2 : decode cX5_isView 2 = .ok (.iconst 4, 1) := by decide +kernel
theorem dX5_isView_3 : decode cX5_isView 3 = .ok (.invokestatic 60, 3) := by decide +kernel
theorem dX5_isView_6 : decode cX5_isView 6 = .ok (.ireturn, 1) := by decide +kernel
theorem dX5_isForm_0 : decode cX5_isForm 0 = .ok (.iload_n 0, 1) := by decide +kernel
theorem dX5_isForm_1 : decode cX5_isForm 1 = .ok (.iconst 0, 1) := by decide +kernel
theorem dX5_isForm_2 : decode cX5_isForm 2 = .ok (.iconst 3, 1) := by decide +kernel
theorem dX5_isForm_3 : decode cX5_isForm 3 = .ok (.invokestatic 60, 3) := by decide +kernel
theorem dX5_isForm_6 : decode cX5_isForm 6 = .ok (.ireturn, 1) := by decide +kernel
theorem dX5_isScale_0 : decode cX5_isScale 0 = .ok (.iload_n 0, 1) := by decide +kernel
theorem dX5_isScale_1 : decode cX5_isScale 1 = .ok (.ifCond .ne 11, 3) := by decide +kernel
theorem dX5_isScale_4 : decode cX5_isScale 4 = .ok (.iload_n 1, 1) := by decide +kernel
theorem dX5_isScale_5 : decode cX5_isScale 5 = .ok (.ifCond .ne 7, 3) := by decide +kernel
theorem dX5_isScale_8 : decode cX5_isScale 8 = .ok (.iconst 1, 1) := by decide +kernel
theorem dX5_isScale_9 : decode cX5_isScale 9 = .ok (.goto 4, 3) := by decide +kernel
theorem dX5_isScale_12 : decode cX5_isScale 12 = .ok (.iconst 0, 1) := by decide +kernel
theorem dX5_isScale_13 : decode cX5_isScale 13 = .ok (.istore_n 2, 1) := by decide +kernel
theorem dX5_isScale_14 : decode cX5_isScale 14 = .ok (.iload_n 2, 1) := by decide +kernel
theorem dX5_isScale_15 : decode cX5_isScale 15 = .ok (.ifCond .ne 23, 3) := by decide +kernel
theorem dX5_isScale_18 : decode cX5_isScale 18 = .ok (.iload_n 0, 1) := by decide +kernel
theorem dX5_isScale_19 : decode cX5_isScale 19 = .ok (.iconst 1, 1) := by decide +kernel
theorem dX5_isScale_20 : decode cX5_isScale 20 = .ok (.bipush 9, 2) := by decide +kernel
theorem dX5_isScale_22 : decode cX5_isScale 22 = .ok (.invokestatic 60, 3) := by decide +kernel
theorem dX5_isScale_25 : decode cX5_isScale 25 = .ok (.ifCond .eq 17, 3) := by decide +kernel
theorem dX5_isScale_28 : decode cX5_isScale 28 = .ok (.iload_n 1, 1) := by decide +kernel
theorem dX5_isScale_29 : decode cX5_isScale 29 = .ok (.iconst 1, 1) := by decide +kernel
theorem dX5_isScale_30 : decode cX5_isScale 30 = .ok (.bipush 9, 2) := by decide +kernel
theorem dX5_isScale_32 : decode cX5_isScale 32 = .ok (.invokestatic 60, 3) := by decide +kernel
theorem dX5_isScale_35 : decode cX5_isScale 35 = .ok (.ifCond .eq 7, 3) := by decide +kernel
theorem dX5_isScale_38 : decode cX5_isScale 38 = .ok (.iconst 1, 1) := by decide +kernel
theorem dX5_isScale_39 : decode cX5_isScale 39 = .ok (.goto 4, 3) := by decide +kernel
theorem dX5_isScale_42 : decode cX5_isScale 42 = .ok (.iconst 0, 1) := by decide +kernel
theorem dX5_isScale_43 : decode cX5_isScale 43 = .ok (.ireturn, 1) := by decide +kernel
theorem dX5_isKeyAndHead_0 : decode cX5_isKeyAndHead 0 = .ok (.iload_n 0, 1) := by decide +kernel
theorem dX5_isKeyAndHead_1 : decode cX5_isKeyAndHead 1 = .ok (.iconst 0, 1) := by decide +kernel
theorem dX5_isKeyAndHead_2 : decode cX5_isKeyAndHead 2 = .ok (.bipush 11, 2) := by decide +kernel
theorem dX5_isKeyAndHead_4 : decode cX5_isKeyAndHead 4 = .ok (.invokestatic 60, 3) := by decide +kernel
theorem dX5_isKeyAndHead_7 : decode cX5_isKeyAndHead 7 = .ok (.ifCond .eq 17, 3) := by decide +kernel
theorem dX5_isKeyAndHead_10 : decode cX5_isKeyAndHead 10 = .ok (.iload_n 1, 1) := by decide +kernel
theorem dX5_isKeyAndHead_11 : decode cX5_isKeyAndHead 11 = .ok (.iconst 0, 1) := by decide +kernel
theorem dX5_isKeyAndHead_12 : decode cX5_isKeyAndHead 12 = .ok (.bipush 12, 2) := by decide +kernel
theorem dX5_isKeyAndHead_14 : decode cX5_isKeyAndHead 14 = .ok (.invokestatic 60, 3) := by decide +kernel
theorem dX5_isKeyAndHead_17 : decode cX5_isKeyAndHead 17 = .ok (.ifCond .eq 7, 3) := by decide +kernel
theorem dX5_isKeyAndHead_20 : decode cX5_isKeyAndHead 20 = .ok (.iconst 1, 1) := by decide +kernel
theorem dX5_isKeyAndHead_21 : decode cX5_isKeyAndHead 21 = .ok (.goto 4, 3) := by decide +kernel
theorem dX5_isKeyAndHead_24 : decode cX5_isKeyAndHead 24 = .ok (.iconst 0, 1) := by decide +kernel
theorem dX5_isKeyAndHead_25 : decode cX5_isKeyAndHead 25 = .ok (.ireturn, 1) := by decide +kernel
theorem dX5_formPitch_0 : decode cX5_formPitch 0 = .ok (.aload_n 0, 1) := by decide +kernel
theorem dX5_formPitch_1 : decode cX5_formPitch 1 = .ok (.getfield 16, 3) := by decide +kernel
theorem dX5_formPitch_4 : decode cX5_formPitch 4 = .ok (.getfield 137, 3) := by decide +kernel
theorem dX5_formPitch_7 : decode cX5_formPitch 7 = .ok (.aload_n 0, 1) := by decide +kernel
theorem dX5_formPitch_8 : decode cX5_formPitch 8 = .ok (.iload_n 1, 1) := by decide +kernel
theorem dX5_formPitch_9 : decode cX5_formPitch 9 = .ok (.iload_n 2, 1) := by decide +kernel
theorem dX5_formPitch_10 : decode cX5_formPitch 10 = .ok (.invokevirtual 190, 3) := by decide +kernel
theorem dX5_formPitch_13 : decode cX5_formPitch 13 = .ok (.iaload, 1) := by decide +kernel
theorem dX5_formPitch_14 : decode cX5_formPitch 14 = .ok (.istore_n 3, 1) := by decide +kernel
theorem dX5_formPitch_15 : decode cX5_formPitch 15 = .ok (.iload_n 1, 1) := by decide +kernel
theorem dX5_formPitch_16 : decode cX5_formPitch 16 = .ok (.iconst 1, 1) := by decide +kernel
theorem dX5_formPitch_17 : decode cX5_formPitch 17 = .ok (.if_icmp .eq 8, 3) := by decide +kernel
theorem dX5_formPitch_20 : decode cX5_formPitch 20 = .ok (.iload_n 1, 1) := by decide +kernel
theorem dX5_formPitch_21 : decode cX5_formPitch 21 = .ok (.iconst 3, 1) := by decide +kernel
theorem dX5_formPitch_22 : decode cX5_formPitch 22 = .ok (.if_icmp .ne 7, 3) := by decide +kernel
theorem dX5_formPitch_25 : decode cX5_formPitch 25 = .ok (.iconst 1, 1) := by decide +kernel
theorem dX5_formPitch_26 : decode cX5_formPitch 26 = .ok (.goto 4, 3) := by decide +kernel
theorem dX5_formPitch_29 : decode cX5_formPitch 29 = .ok (.iconst 0, 1) := by decide +kernel
theorem dX5_formPitch_30 : decode cX5_formPitch 30 = .ok (.istore 4, 2) := by decide +kernel
theorem dX5_formPitch_32 : decode cX5_formPitch 32 = .ok (.iload 4, 2) := by decide +kernel
theorem dX5_formPitch_34 : decode cX5_formPitch 34 = .ok (.ifCond .eq 24, 3) := by decide +kernel
theorem dX5_formPitch_37 : decode cX5_formPitch 37 = .ok (.iconst 2, 1) := by decide +kernel
theorem dX5_formPitch_38 : decode cX5_formPitch 38 = .ok (.aload_n 0, 1) := by decide +kernel
theorem dX5_formPitch_39 : decode cX5_formPitch 39 = .ok (.getfield 16, 3) := by decide +kernel
theorem dX5_formPitch_42 : decode cX5_formPitch 42 = .ok (.getfield 137, 3) := by decide +kernel
theorem dX5_formPitch_45 : decode cX5_formPitch 45 = .ok (.aload_n 0, 1) := by decide +kernel
theorem dX5_formPitch_46 : decode cX5_formPitch 46 = .ok (.iload_n 1, 1) := by decide +kernel
theorem dX5_formPitch_47 : decode cX5_formPitch 47 = .ok (.iconst 0, 1) := by decide +kernel
theorem dX5_formPitch_48 : decode cX5_formPitch 48 = .ok (.invokevirtual 190, 3) := by decide +kernel
theorem dX5_formPitch_51 : decode cX5_formPitch 51 = .ok (.iaload, 1) := by decide +kernel
theorem dX5_formPitch_52 : decode cX5_formPitch 52 = .ok (.imul, 1) := by decide +kernel
theorem dX5_formPitch_53 : decode cX5_formPitch 53 = .ok (.iload_n 3, 1) := by decide +kernel
theorem dX5_formPitch_54 : decode cX5_formPitch 54 = .ok (.isub, 1) := by decide +kernel
theorem dX5_formPitch_55 : decode cX5_formPitch 55 = .ok (.goto 4, 3) := by decide +kernel
theorem dX5_formPitch_58 : decode cX5_formPitch 58 = .ok (.iload_n 3, 1) := by decide +kernel
theorem dX5_formPitch_59 : decode cX5_formPitch 59 = .ok (.ireturn, 1) := by decide +kernel
theorem dX5_formLength_0 : decode cX5_formLength 0 = .ok (.aload_n 0, 1) := by decide +kernel
theorem dX5_formLength_1 : decode cX5_formLength 1 = .ok (.getfield 16, 3) := by decide +kernel
theorem dX5_formLength_4 : decode cX5_formLength 4 = .ok (.getfield 141, 3) := by decide +kernel
theorem dX5_formLength_7 : decode cX5_formLength 7 = .ok (.aload_n 0, 1) := by decide +kernel
theorem dX5_formLength_8 : decode cX5_formLength 8 = .ok (.iload_n 1, 1) := by decide +kernel
theorem dX5_formLength_9 : decode cX5_formLength 9 = .ok (.iload_n 2, 1) := by decide +kernel
theorem dX5_formLength_10 : decode cX5_formLength 10 = .ok (.invokevirtual 190, 3) := by decide +kernel
theorem dX5_formLength_13 : decode cX5_formLength 13 = .ok (.iaload, 1) := by decide +kernel
theorem dX5_formLength_14 : decode cX5_formLength 14 = .ok (.ireturn, 1) := by decide +kernel
theorem dX5_placeInTheme_0 : decode cX5_placeInTheme 0 = .ok (.iload_n 1, 1) := by decide +kernel
theorem dX5_placeInTheme_1 : decode cX5_placeInTheme 1 = .ok (.iconst 2, 1) := by decide +kernel
theorem dX5_placeInTheme_2 : decode cX5_placeInTheme 2 = .ok (.if_icmp .eq 8, 3) := by decide +kernel
theorem dX5_placeInTheme_5 : decode cX5_placeInTheme 5 = .ok (.iload_n 1, 1) := by decide +kernel
theorem dX5_placeInTheme_6 : decode cX5_placeInTheme 6 = .ok (.iconst 3, 1) := by decide +kernel
theorem dX5_placeInTheme_7 : decode cX5_placeInTheme 7 = .ok (.if_icmp .ne 7, 3) := by decide +kernel
theorem dX5_placeInTheme_10 : decode cX5_placeInTheme 10 = .ok (.iconst 1, 1) := by decide +kernel
theorem dX5_placeInTheme_11 : decode cX5_placeInTheme 11 = .ok (.goto 4, 3) := by decide +kernel
theorem dX5_placeInTheme_14 : decode cX5_placeInTheme 14 = .ok (.iconst 0, 1) := by decide +kernel
theorem dX5_placeInTheme_15 : decode cX5_placeInTheme 15 = .ok (.istore_n 3, 1) := by decide +kernel
theorem dX5_placeInTheme_16 : decode cX5_placeInTheme 16 = .ok (.iload_n 3, 1) := by decide +kernel
theorem dX5_placeInTheme_17 : decode cX5_placeInTheme 17 = .ok (.ifCond .eq 17, 3) := by decide +kernel
theorem dX5_placeInTheme_20 : decode cX5_placeInTheme 20 = .ok (.aload_n 0, 1) := by decide +kernel
theorem dX5_placeInTheme_21 : decode cX5_placeInTheme 21 = .ok (.getfield 16, 3) := by decide +kernel
theorem dX5_placeInTheme_24 : decode cX5_placeInTheme 24 = .ok (.getfield 50, 3) := by decide +kernel
theorem dX5_placeInTheme_27 : decode cX5_placeInTheme 27 = .ok (.iconst 1, 1) := by decide +kernel
theorem dX5_placeInTheme_28 : decode cX5_placeInTheme 28 = .ok (.isub, 1) := by decide +kernel
theorem dX5_placeInTheme_29 : decode cX5_placeInTheme 29 = .ok (.iload_n 2, 1) := by decide +kernel
theorem dX5_placeInTheme_30 : decode cX5_placeInTheme 30 = .ok (.isub, 1) := by decide +kernel
theorem dX5_placeInTheme_31 : decode cX5_placeInTheme 31 = .ok (.goto 4, 3) := by decide +kernel
theorem dX5_placeInTheme_34 : decode cX5_placeInTheme 34 = .ok (.iload_n 2, 1) := by decide +kernel
theorem dX5_placeInTheme_35 : decode cX5_placeInTheme 35 = .ok (.ireturn, 1) := by decide +kernel
theorem dX5_answerPitch_0 : decode cX5_answerPitch 0 = .ok (.aload_n 0, 1) := by decide +kernel
theorem dX5_answerPitch_1 : decode cX5_answerPitch 1 = .ok (.getfield 16, 3) := by decide +kernel
theorem dX5_answerPitch_4 : decode cX5_answerPitch 4 = .ok (.getfield 137, 3) := by decide +kernel
theorem dX5_answerPitch_7 : decode cX5_answerPitch 7 = .ok (.iload_n 3, 1) := by decide +kernel
theorem dX5_answerPitch_8 : decode cX5_answerPitch 8 = .ok (.iaload, 1) := by decide +kernel
theorem dX5_answerPitch_9 : decode cX5_answerPitch 9 = .ok (.istore 4, 2) := by decide +kernel
theorem dX5_answerPitch_11 : decode cX5_answerPitch 11 = .ok (.iload_n 3, 1) := by decide +kernel
theorem dX5_answerPitch_12 : decode cX5_answerPitch 12 = .ok (.iload_n 2, 1) := by decide +kernel
theorem dX5_answerPitch_13 : decode cX5_answerPitch 13 = .ok (.if_icmp .ge 21, 3) := by decide +kernel
theorem dX5_answerPitch_16 : decode cX5_answerPitch 16 = .ok (.iload 4, 2) := by decide +kernel
theorem dX5_answerPitch_18 : decode cX5_answerPitch 18 = .ok (.iload_n 1, 1) := by decide +kernel
theorem dX5_answerPitch_19 : decode cX5_answerPitch 19 = .ok (.isub, 1) := by decide +kernel
theorem dX5_answerPitch_20 : decode cX5_answerPitch 20 = .ok (.bipush 12, 2) := by decide +kernel
theorem dX5_answerPitch_22 : decode cX5_answerPitch 22 = .ok (.invokestatic 193, 3) := by decide +kernel
theorem dX5_answerPitch_25 : decode cX5_answerPitch 25 = .ok (.bipush 7, 2) := by decide +kernel
theorem dX5_answerPitch_27 : decode cX5_answerPitch 27 = .ok (.if_icmp .ne 7, 3) := by decide +kernel
theorem dX5_answerPitch_30 : decode cX5_answerPitch 30 = .ok (.iconst 1, 1) := by decide +kernel
theorem dX5_answerPitch_31 : decode cX5_answerPitch 31 = .ok (.goto 4, 3) := by decide +kernel
theorem dX5_answerPitch_34 : decode cX5_answerPitch 34 = .ok (.iconst 0, 1) := by decide +kernel
theorem dX5_answerPitch_35 : decode cX5_answerPitch 35 = .ok (.istore 5, 2) := by decide +kernel
theorem dX5_answerPitch_37 : decode cX5_answerPitch 37 = .ok (.iload 4, 2) := by decide +kernel
theorem dX5_answerPitch_39 : decode cX5_answerPitch 39 = .ok (.iload 5, 2) := by decide +kernel
theorem dX5_answerPitch_41 : decode cX5_answerPitch 41 = .ok (.ifCond .eq 7, 3) := by decide +kernel
theorem dX5_answerPitch_44 : decode cX5_answerPitch 44 = .ok (.iconst 5, 1) := by decide +kernel
theorem dX5_answerPitch_45 : decode cX5_answerPitch 45 = .ok (.goto 5, 3) := by decide +kernel
theorem dX5_answerPitch_48 : decode cX5_answerPitch 48 = .ok (.bipush 7, 2) := by decide +kernel
theorem dX5_answerPitch_50 : decode cX5_answerPitch 50 = .ok (.iadd, 1) := by decide +kernel
theorem dX5_answerPitch_51 : decode cX5_answerPitch 51 = .ok (.ireturn, 1) := by decide +kernel
theorem dX5_lookForSought_0 : decode cX5_lookForSought 0 = .ok (.aload_n 0, 1) := by decide +kernel
theorem dX5_lookForSought_1 : decode cX5_lookForSought 1 = .ok (.getfield 39, 3) := by decide +kernel
theorem dX5_lookForSought_4 : decode cX5_lookForSought 4 = .ok (.iconst 0, 1) := by decide +kernel
theorem dX5_lookForSought_5 : decode cX5_lookForSought 5 = .ok (.putfield 55, 3) := by decide +kernel
theorem dX5_lookForSought_8 : decode cX5_lookForSought 8 = .ok (.iconst 0, 1) := by decide +kernel
theorem dX5_lookForSought_9 : decode cX5_lookForSought 9 = .ok (.istore_n 3, 1) := by decide +kernel
theorem dX5_lookForSought_10 : decode cX5_lookForSought 10 = .ok (.iload_n 3, 1) := by decide +kernel
theorem dX5_lookForSought_11 : decode cX5_lookForSought 11 = .ok (.aload_n 0, 1) := by decide +kernel
theorem dX5_lookForSought_12 : decode cX5_lookForSought 12 = .ok (.getfield 19, 3) := by decide +kernel
theorem dX5_lookForSought_15 : decode cX5_lookForSought 15 = .ok (.getfield 50, 3) := by decide +kernel
theorem dX5_lookForSought_18 : decode cX5_lookForSought 18 = .ok (.iadd, 1) := by decide +kernel
theorem dX5_lookForSought_19 : decode cX5_lookForSought 19 = .ok (.aload_n 0, 1) := by decide +kernel
theorem dX5_lookForSought_20 : decode cX5_lookForSought 20 = .ok (.getfield 10, 3) := by decide +kernel
theorem dX5_lookForSought_23 : decode cX5_lookForSought 23 = .ok (.getfield 50, 3) := by decide +kernel
theorem dX5_lookForSought_26 : decode cX5_lookForSought 26 = .ok (.if_icmp .gt 27, 3) := by decide +kernel
theorem dX5_lookForSought_29 : decode cX5_lookForSought 29 = .ok (.aload_n 0, 1) := by decide +kernel
theorem dX5_lookForSought_30 : decode cX5_lookForSought 30 = .ok (.iload_n 3, 1) := by decide +kernel
theorem dX5_lookForSought_31 : decode cX5_lookForSought 31 = .ok (.iload_n 1, 1) := by decide +kernel
theorem dX5_lookForSought_32 : decode cX5_lookForSought 32 = .ok (.iload_n 2, 1) := by decide +kernel
theorem dX5_lookForSought_33 : decode cX5_lookForSought 33 = .ok (.invokevirtual 198, 3) := by decide +kernel
theorem dX5_lookForSought_36 : decode cX5_lookForSought 36 = .ok (.ifCond .eq 11, 3) := by decide +kernel
theorem dX5_lookForSought_39 : decode cX5_lookForSought 39 = .ok (.aload_n 0, 1) := by decide +kernel
theorem dX5_lookForSought_40 : decode cX5_lookForSought 40 = .ok (.getfield 39, 3) := by decide +kernel
theorem dX5_lookForSought_43 : decode cX5_lookForSought 43 = .ok (.iload_n 3, 1) := by decide +kernel
theorem dX5_lookForSought_44 : decode cX5_lookForSought 44 = .ok (.invokevirtual 201, 3) := by decide +kernel
theorem dX5_lookForSought_47 : decode cX5_lookForSought 47 = .ok (.iinc 3 1, 3) := by decide +kernel
theorem dX5_lookForSought_50 : decode cX5_lookForSought 50 = .ok (.goto (-40), 3) := by decide +kernel
theorem dX5_lookForSought_53 : decode cX5_lookForSought 53 = .ok (.return_, 1) := by decide +kernel
theorem dX5_isSoughtAt_0 : decode cX5_isSoughtAt 0 = .ok (.iconst 0, 1) := by decide +kernel
theorem dX5_isSoughtAt_1 : decode cX5_isSoughtAt 1 = .ok (.istore 4, 2) := by decide +kernel
theorem dX5_isSoughtAt_3 : decode cX5_isSoughtAt 3 = .ok (.iload 4, 2) := by decide +kernel
theorem dX5_isSoughtAt_5 : decode cX5_isSoughtAt 5 = .ok (.aload_n 0, 1) := by decide +kernel
theorem dX5_isSoughtAt_6 : decode cX5_isSoughtAt 6 = .ok (.getfield 19, 3) := by decide +kernel
theorem dX5_isSoughtAt_9 : decode cX5_isSoughtAt 9 = .ok (.getfield 50, 3) := by decide +kernel
theorem dX5_isSoughtAt_12 : decode cX5_isSoughtAt 12 = .ok (.if_icmp .ge 70, 3) := by decide +kernel
theorem dX5_isSoughtAt_15 : decode cX5_isSoughtAt 15 = .ok (.iload 4, 2) := by decide +kernel
theorem dX5_isSoughtAt_17 : decode cX5_isSoughtAt 17 = .ok (.ifCond .le 28, 3) := by decide +kernel
theorem dX5_isSoughtAt_20 : decode cX5_isSoughtAt 20 = .ok (.aload_n 0, 1) := by decide +kernel
theorem dX5_isSoughtAt_21 : decode cX5_isSoughtAt 21 = .ok (.getfield 10, 3) := by decide +kernel
theorem dX5_isSoughtAt_24 : decode cX5_isSoughtAt 24 = .ok (.iload_n 1, 1) := by decide +kernel
theorem dX5_isSoughtAt_25 : decode cX5_isSoughtAt 25 = .ok (.iload 4, 2) := by decide +kernel
theorem dX5_isSoughtAt_27 : decode cX5_isSoughtAt 27 = .ok (.iadd, 1) := by decide +kernel
theorem dX5_isSoughtAt_28 : decode cX5_isSoughtAt 28 = .ok (.invokevirtual 204, 3) := by decide +kernel
theorem dX5_isSoughtAt_31 : decode cX5_isSoughtAt 31 = .ok (.aload_n 0, 1) := by decide +kernel
theorem dX5_isSoughtAt_32 : decode cX5_isSoughtAt 32 = .ok (.getfield 19, 3) := by decide +kernel
theorem dX5_isSoughtAt_35 : decode cX5_isSoughtAt 35 = .ok (.iload 4, 2) := by decide +kernel
theorem dX5_isSoughtAt_37 : decode cX5_isSoughtAt 37 = .ok (.invokevirtual 204, 3) := by decide +kernel
theorem dX5_isSoughtAt_40 : decode cX5_isSoughtAt 40 = .ok (.if_icmp .eq 5, 3) := by decide +kernel
theorem dX5_isSoughtAt_43 : decode cX5_isSoughtAt 43 = .ok (.iconst 0, 1) := by decide +kernel
theorem dX5_isSoughtAt_44 : decode cX5_isSoughtAt 44 = .ok (.ireturn, 1) := by decide +kernel
theorem dX5_isSoughtAt_45 : decode cX5_isSoughtAt 45 = .ok (.aload_n 0, 1) := by decide +kernel
theorem dX5_isSoughtAt_46 : decode cX5_isSoughtAt 46 = .ok (.getfield 10, 3) := by decide +kernel
theorem dX5_isSoughtAt_49 : decode cX5_isSoughtAt 49 = .ok (.getfield 141, 3) := by decide +kernel
theorem dX5_isSoughtAt_52 : decode cX5_isSoughtAt 52 = .ok (.iload_n 1, 1) := by decide +kernel
theorem dX5_isSoughtAt_53 : decode cX5_isSoughtAt 53 = .ok (.iload 4, 2) := by decide +kernel
theorem dX5_isSoughtAt_55 : decode cX5_isSoughtAt 55 = .ok (.iadd, 1) := by decide +kernel
theorem dX5_isSoughtAt_56 : decode cX5_isSoughtAt 56 = .ok (.iaload, 1) := by decide +kernel
theorem dX5_isSoughtAt_57 : decode cX5_isSoughtAt 57 = .ok (.iload_n 3, 1) := by decide +kernel
theorem dX5_isSoughtAt_58 : decode cX5_isSoughtAt 58 = .ok (.imul, 1) := by decide +kernel
theorem dX5_isSoughtAt_59 : decode cX5_isSoughtAt 59 = .ok (.aload_n 0, 1) := by decide +kernel
theorem dX5_isSoughtAt_60 : decode cX5_isSoughtAt 60 = .ok (.getfield 19, 3) := by decide +kernel
theorem dX5_isSoughtAt_63 : decode cX5_isSoughtAt 63 = .ok (.getfield 141, 3) := by decide +kernel
theorem dX5_isSoughtAt_66 : decode cX5_isSoughtAt 66 = .ok (.iload 4, 2) := by decide +kernel
theorem dX5_isSoughtAt_68 : decode cX5_isSoughtAt 68 = .ok (.iaload, 1) := by decide +kernel
theorem dX5_isSoughtAt_69 : decode cX5_isSoughtAt 69 = .ok (.iload_n 2, 1) := by decide +kernel
theorem dX5_isSoughtAt_70 : decode cX5_isSoughtAt 70 = .ok (.imul, 1) := by decide +kernel
theorem dX5_isSoughtAt_71 : decode cX5_isSoughtAt 71 = .ok (.if_icmp .eq 5, 3) := by decide +kernel
theorem dX5_isSoughtAt_74 : decode cX5_isSoughtAt 74 = .ok (.iconst 0, 1) := by decide +kernel
theorem dX5_isSoughtAt_75 : decode cX5_isSoughtAt 75 = .ok (.ireturn, 1) := by decide +kernel
theorem dX5_isSoughtAt_76 : decode cX5_isSoughtAt 76 = .ok (.iinc 4 1, 3) := by decide +kernel
theorem dX5_isSoughtAt_79 : decode cX5_isSoughtAt 79 = .ok (.goto (-76), 3) := by decide +kernel
theorem dX5_isSoughtAt_82 : decode cX5_isSoughtAt 82 = .ok (.iconst 1, 1) := by decide +kernel
theorem dX5_isSoughtAt_83 : decode cX5_isSoughtAt 83 = .ok (.ireturn, 1) := by decide +kernel
end
section
theorem dX6_init_0 : decode cX6_init 0 = .ok (.aload_n 0, 1) := by decide +kernel
theorem dX6_init_1 : decode cX6_init 1 = .ok (.invokespecial 1, 3) := by decide +kernel
theorem dX6_init_4 : decode cX6_init 4 = .ok (.aload_n 0, 1) := by decide +kernel
theorem dX6_init_5 : decode cX6_init 5 = .ok (.bipush 60, 2) := by decide +kernel
theorem dX6_init_7 : decode cX6_init 7 = .ok (.newarray .int, 2) := by decide +kernel
theorem dX6_init_9 : decode cX6_init 9 = .ok (.putfield 7, 3) := by decide +kernel
theorem dX6_init_12 : decode cX6_init 12 = .ok (.aload_n 0, 1) := by decide +kernel
theorem dX6_init_13 : decode cX6_init 13 = .ok (.bipush 60, 2) := by decide +kernel
theorem dX6_init_15 : decode cX6_init 15 = .ok (.newarray .int, 2) := by decide +kernel
theorem dX6_init_17 : decode cX6_init 17 = .ok (.putfield 13, 3) := by decide +kernel
theorem dX6_init_20 : decode cX6_init 20 = .ok (.aload_n 0, 1) := by decide +kernel
theorem dX6_init_21 : decode cX6_init 21 = .ok (.sipush 5400, 3) := by decide +kernel
theorem dX6_init_24 : decode cX6_init 24 = .ok (.newarray .int, 2) := by decide +kernel
theorem dX6_init_26 : decode cX6_init 26 = .ok (.putfield 16, 3) := by decide +kernel
theorem dX6_init_29 : decode cX6_init 29 = .ok (.aload_n 0, 1) := by decide +kernel
theorem dX6_init_30 : decode cX6_init 30 = .ok (.bipush 12, 2) := by decide +kernel
theorem dX6_init_32 : decode cX6_init 32 = .ok (.newarray .int, 2) := by decide +kernel
theorem dX6_init_34 : decode cX6_init 34 = .ok (.putfield 19, 3) := by decide +kernel
theorem dX6_init_37 : decode cX6_init 37 = .ok (.aload_n 0, 1) := by decide +kernel
theorem dX6_init_38 : decode cX6_init 38 = .ok (.bipush 12, 2) := by decide +kernel
theorem dX6_init_40 : decode cX6_init 40 = .ok (.newarray .int, 2) := by decide +kernel
theorem dX6_init_42 : decode cX6_init 42 = .ok (.putfield 22, 3) := by decide +kernel
theorem dX6_init_45 : decode cX6_init 45 = .ok (.aload_n 0, 1) := by decide +kernel
theorem dX6_init_46 : decode cX6_init 46 = .ok (.bipush 60, 2) := by decide +kernel
theorem dX6_init_48 : decode cX6_init 48 = .ok (.newarray .int, 2) := by decide +kernel
theorem dX6_init_50 : decode cX6_init 50 = .ok (.putfield 25, 3) := by decide +kernel
theorem dX6_init_53 : decode cX6_init 53 = .ok (.aload_n 0, 1) := by decide +kernel
theorem dX6_init_54 : decode cX6_init 54 = .ok (.bipush 60, 2) := by decide +kernel
theorem dX6_init_56 : decode cX6_init 56 = .ok (.newarray .int, 2) := by decide +kernel
theorem dX6_init_58 : decode cX6_init 58 = .ok (.putfield 28, 3) := by decide +kernel
theorem dX6_init_61 : decode cX6_init 61 = .ok (.aload_n 0, 1) := by decide +kernel
theorem dX6_init_62 : decode cX6_init 62 = .ok (.bipush 12, 2) := by decide +kernel
theorem dX6_init_64 : decode cX6_init 64 = .ok (.newarray .int, 2) := by decide +kernel
theorem dX6_init_66 : decode cX6_init 66 = .ok (.putfield 31, 3) := by decide +kernel
theorem dX6_init_69 : decode cX6_init 69 = .ok (.aload_n 0, 1) := by decide +kernel
theorem dX6_init_70 : decode cX6_init 70 = .ok (.bipush 61, 2) := by decide +kernel
theorem dX6_init_72 : decode cX6_init 72 = .ok (.newarray .int, 2) := by decide +kernel
theorem dX6_init_74 : decode cX6_init 74 = .ok (.putfield 34, 3) := by decide +kernel
theorem dX6_init_77 : decode cX6_init 77 = .ok (.aload_n 0, 1) := by decide +kernel
theorem dX6_init_78 : decode cX6_init 78 = .ok (.bipush 61, 2) := by decide +kernel
theorem dX6_init_80 : decode cX6_init 80 = .ok (.newarray .int, 2) := by decide +kernel
theorem dX6_init_82 : decode cX6_init 82 = .ok (.putfield 37, 3) := by decide +kernel
theorem dX6_init_85 : decode cX6_init 85 = .ok (.aload_n 0, 1) := by decide +kernel
theorem dX6_init_86 : decode cX6_init 86 = .ok (.bipush 61, 2) := by decide +kernel
theorem dX6_init_88 : decode cX6_init 88 = .ok (.newarray .int, 2) := by decide +kernel
theorem dX6_init_90 : decode cX6_init 90 = .ok (.putfield 40, 3) := by decide +kernel
theorem dX6_init_93 : decode cX6_init 93 = .ok (.aload_n 0, 1) := by decide +kernel
theorem dX6_init_94 : decode cX6_init 94 = .ok (.invokevirtual 43, 3) := by decide +kernel
theorem dX6_init_97 : decode cX6_init 97 = .ok (.return_, 1) := by decide +kernel
theorem dX6_thrown_0 : decode cX6_thrown 0 = .ok (.aload_n 0, 1) := by decide +kernel
theorem dX6_thrown_1 : decode cX6_thrown 1 = .ok (.getfield 46, 3) := by decide +kernel
theorem dX6_thrown_4 : decode cX6_thrown 4 = .ok (.ireturn, 1) := by decide +kernel
theorem dX6_begin_0 : decode cX6_begin 0 = .ok (.aload_n 0, 1) := by decide +kernel
theorem dX6_begin_1 : decode cX6_begin 1 = .ok (.iconst 0, 1) := by decide +kernel
theorem dX6_begin_2 : decode cX6_begin 2 = .ok (.putfield 50, 3) := by decide +kernel
theorem dX6_begin_5 : decode cX6_begin 5 = .ok (.aload_n 0, 1) := by decide +kernel
theorem dX6_begin_6 : decode cX6_begin 6 = .ok (.iconst 0, 1) := by decide +kernel
theorem dX6_begin_7 : decode cX6_begin 7 = .ok (.putfield 53, 3) := by decide +kernel
theorem dX6_begin_10 : decode cX6_begin 10 = .ok (.aload_n 0, 1) := by decide +kernel
theorem dX6_begin_11 : decode cX6_begin 11 = .ok (.iconst 0, 1) := by decide +kernel
theorem dX6_begin_12 : decode cX6_begin 12 = .ok (.putfield 56, 3) := by decide +kernel
theorem dX6_begin_15 : decode cX6_begin 15 = .ok (.aload_n 0, 1) := by decide +kernel
theorem dX6_begin_16 : decode cX6_begin 16 = .ok (.iconst 0, 1) := by decide +kernel
theorem dX6_begin_17 : decode cX6_begin 17 = .ok (.putfield 59, 3) := by decide +kernel
theorem dX6_begin_20 : decode cX6_begin 20 = .ok (.aload_n 0, 1) := by decide +kernel
theorem dX6_begin_21 : decode cX6_begin 21 = .ok (.iconst 0, 1) := by decide +kernel
theorem dX6_begin_22 : decode cX6_begin 22 = .ok (.putfield 62, 3) := by decide +kernel
theorem dX6_begin_25 : decode cX6_begin 25 = .ok (.aload_n 0, 1) := by decide +kernel
theorem dX6_begin_26 : decode cX6_begin 26 = .ok (.iconst 0, 1) := by decide +kernel
theorem dX6_begin_27 : decode cX6_begin 27 = .ok (.putfield 65, 3) := by decide +kernel
theorem dX6_begin_30 : decode cX6_begin 30 = .ok (.return_, 1) := by decide +kernel
theorem dX6_clear_0 : decode cX6_clear 0 = .ok (.aload_n 0, 1) := by decide +kernel
theorem dX6_clear_1 : decode cX6_clear 1 = .ok (.iconst 0, 1) := by decide +kernel
theorem dX6_clear_2 : decode cX6_clear 2 = .ok (.putfield 46, 3) := by decide +kernel
theorem dX6_clear_5 : decode cX6_clear 5 = .ok (.aload_n 0, 1) := by decide +kernel
theorem dX6_clear_6 : decode cX6_clear 6 = .ok (.getfield 50, 3) := by decide +kernel
theorem dX6_clear_9 : decode cX6_clear 9 = .ok (.istore_n 1, 1) := by decide +kernel
theorem dX6_clear_10 : decode cX6_clear 10 = .ok (.aload_n 0, 1) := by decide +kernel
theorem dX6_clear_11 : decode cX6_clear 11 = .ok (.invokevirtual 43, 3) := by decide +kernel
theorem dX6_clear_14 : decode cX6_clear 14 = .ok (.iload_n 1, 1) := by decide +kernel
theorem dX6_clear_15 : decode cX6_clear 15 = .ok (.ireturn, 1) := by decide +kernel
theorem dX6_isIn_0 : decode cX6_isIn 0 = .ok (.lload_n 0, 1) := by decide +kernel
theorem dX6_isIn_1 : decode cX6_isIn 1 = .ok (.lload_n 2, 1) := by decide +kernel
theorem dX6_isIn_2 : decode cX6_isIn 2 = .ok (.lcmp, 1) := by decide +kernel
theorem dX6_isIn_3 : decode cX6_isIn 3 = .ok (.ifCond .lt 14, 3) := by decide +kernel
theorem dX6_isIn_6 : decode cX6_isIn 6 = .ok (.lload_n 0, 1) := by decide +kernel
theorem dX6_isIn_7 : decode cX6_isIn 7 = .ok (.lload 4, 2) := by decide +kernel
theorem dX6_isIn_9 : decode cX6_isIn 9 = .ok (.lcmp, 1) := by decide +kernel
theorem dX6_isIn_10 : decode cX6_isIn 10 = .ok (.ifCond .gt 7, 3) := by decide +kernel
theorem dX6_isIn_13 : decode cX6_isIn 13 = .ok (.iconst 1, 1) := by decide +kernel
theorem dX6_isIn_14 : decode cX6_isIn 14 = .ok (.goto 4, 3) := by decide +kernel
theorem dX6_isIn_17 : decode cX6_isIn 17 = .ok (.iconst 0, 1) := by decide +kernel
theorem dX6_isIn_18 : decode cX6_isIn 18 = .ok (.ireturn, 1) := by decide +kernel
theorem dX6_goesOn_0 : decode cX6_goesOn 0 = .ok (.aload_n 0, 1) := by decide +kernel
theorem dX6_goesOn_1 : decode cX6_goesOn 1 = .ok (.getfield 46, 3) := by decide +kernel
theorem dX6_goesOn_4 : decode cX6_goesOn 4 = .ok (.ifCond .ne 12, 3) := by decide +kernel
theorem dX6_goesOn_7 : decode cX6_goesOn 7 = .ok (.iload_n 1, 1) := by decide +kernel
theorem dX6_goesOn_8 : decode cX6_goesOn 8 = .ok (.ifCond .ne 8, 3) := by decide +kernel
theorem dX6_goesOn_11 : decode cX6_goesOn 11 = .ok (.aload_n 0, 1) := by decide +kernel
theorem dX6_goesOn_12 : decode cX6_goesOn 12 = .ok (.iload_n 2, 1) := by decide +kernel
theorem dX6_goesOn_13 : decode cX6_goesOn 13 = .ok (.putfield 46, 3) := by decide +kernel
theorem dX6_goesOn_16 : decode cX6_goesOn 16 = .ok (.aload_n 0, 1) := by decide +kernel
theorem dX6_goesOn_17 : decode cX6_goesOn 17 = .ok (.getfield 46, 3) := by decide +kernel
theorem dX6_goesOn_20 : decode cX6_goesOn 20 = .ok (.ifCond .ne 7, 3) := by decide +kernel
theorem dX6_goesOn_23 : decode cX6_goesOn 23 = .ok (.iconst 1, 1) := by decide +kernel
theorem dX6_goesOn_24 : decode cX6_goesOn 24 = .ok (.goto 4, 3) := by decide +kernel
theorem dX6_goesOn_27 : decode cX6_goesOn 27 = .ok (.iconst 0, 1) := by decide +kernel
theorem dX6_goesOn_28 : decode cX6_goesOn 28 = .ok (.ireturn, 1) := by decide +kernel
theorem dX6_note_0 : decode cX6_note 0 = .ok (.aload_n 0, 1) := by decide +kernel
theorem dX6_note_1 : decode cX6_note 1 = .ok (.iconst 0, 1) := by decide +kernel
theorem dX6_note_2 : decode cX6_note 2 = .ok (.putfield 46, 3) := by decide +kernel
theorem dX6_note_5 : decode cX6_note 5 = .ok (.aload_n 0, 1) := by decide +kernel
theorem dX6_note_6 : decode cX6_note 6 = .ok (.iload_n 1, 1) := by decide +kernel
theorem dX6_note_7 : decode cX6_note 7 = .ok (.i2l, 1) := by decide +kernel
theorem dX6_note_8 : decode cX6_note 8 = .ok (.lconst 0, 1) := by decide +kernel
theorem dX6_note_9 : decode cX6_note 9 = .ok (.ldc2_w 68, 3) := by decide +kernel
theorem dX6_note_12 : decode cX6_note 12 = .ok (.invokestatic 70, 3) := by decide +kernel
theorem dX6_note_15 : decode cX6_note 15 = .ok (.ifCond .eq 19, 3) := by decide +kernel
theorem dX6_note_18 : decode cX6_note 18 = .ok (.iload_n 2, 1) := by decide +kernel
theorem dX6_note_19 : decode cX6_note 19 = .ok (.i2l, 1) := by decide +kernel
theorem dX6_note_20 : decode cX6_note 20 = .ok (.lconst 1, 1) := by decide +kernel
theorem dX6_note_21 : decode cX6_note 21 = .ok (.ldc2_w 74, 3) := by decide +kernel
theorem dX6_note_24 : decode cX6_note 24 = .ok (.invokestatic 70, 3) := by decide +kernel
theorem dX6_note_27 : decode cX6_note 27 = .ok (.ifCond .eq 7, 3) := by decide +kernel
theorem dX6_note_30 : decode cX6_note 30 = .ok (.iconst 1, 1) := by decide +kernel
theorem dX6_note_31 : decode cX6_note 31 = .ok (.goto 4, 3) := by decide +kernel
theorem dX6_note_34 : decode cX6_note 34 = .ok (.iconst 0, 1) := by decide +kernel
theorem dX6_note_35 : decode cX6_note 35 = .ok (.iconst 1, 1) := by decide +kernel
theorem dX6_note_36 : decode cX6_note 36 = .ok (.invokevirtual 76, 3) := by decide +kernel
theorem dX6_note_39 : decode cX6_note 39 = .ok (.ifCond .eq 29, 3) := by decide +kernel
theorem dX6_note_42 : decode cX6_note 42 = .ok (.aload_n 0, 1) := by decide +kernel
theorem dX6_note_43 : decode cX6_note 43 = .ok (.aload_n 0, 1) := by decide +kernel
theorem dX6_note_44 : decode cX6_note 44 = .ok (.getfield 50, 3) := by decide +kernel
theorem dX6_note_47 : decode cX6_note 47 = .ok (.bipush 60, 2) := by decide +kernel
theorem dX6_note_49 : decode cX6_note 49 = .ok (.if_icmp .ge 7, 3) := by decide +kernel
theorem dX6_note_52 : decode cX6_note 52 = .ok (.iconst 1, 1) := by decide +kernel
theorem dX6_note_53 : decode cX6_note 53 = .ok (.goto 4, 3) := by decide +kernel
theorem dX6_note_56 : decode cX6_note 56 = .ok (.iconst 0, 1) := by decide +kernel
theorem dX6_note_57 : decode cX6_note 57 = .ok (.iconst 2, 1) := by decide +kernel
theorem dX6_note_58 : decode cX6_note 58 = .ok (.invokevirtual 76, 3) := by decide +kernel
theorem dX6_note_61 : decode cX6_note 61 = .ok (.ifCond .eq 7, 3) := by decide +kernel
theorem dX6_note_64 : decode cX6_note 64 = .ok (.iconst 1, 1) := by decide +kernel
theorem dX6_note_65 : decode cX6_note 65 = .ok (.goto 4, 3) := by decide +kernel
theorem dX6_note_68 : decode cX6_note 68 = .ok (.iconst 0, 1) := by decide +kernel
theorem dX6_note_69 : decode cX6_note 69 = .ok (.istore_n 3, 1) := by decide +kernel
theorem dX6_note_70 : decode cX6_note 70 = .ok (.iload_n 3, 1) := by decide +kernel
theorem dX6_note_71 : decode cX6_note 71 = .ok (.ifCond .ne 5, 3) := by decide +kernel
theorem dX6_note_74 : decode cX6_note 74 = .ok (.iconst 0, 1) := by decide +kernel
theorem dX6_note_75 : decode cX6_note 75 = .ok (.ireturn, 1) := by decide +kernel
theorem dX6_note_76 : decode cX6_note 76 = .ok (.aload_n 0, 1) := by decide +kernel
theorem dX6_note_77 : decode cX6_note 77 = .ok (.getfield 7, 3) := by decide +kernel
theorem dX6_note_80 : decode cX6_note 80 = .ok (.aload_n 0, 1) := by decide +kernel
theorem dX6_note_81 : decode cX6_note 81 = .ok (.getfield 50, 3) := by decide +kernel
theorem dX6_note_84 : decode cX6_note 84 = .ok (.iload_n 1, 1) := by decide +kernel
theorem dX6_note_85 : decode cX6_note 85 = .ok (.iastore, 1) := by decide +kernel
theorem dX6_note_86 : decode cX6_note 86 = .ok (.aload_n 0, 1) := by decide +kernel
theorem dX6_note_87 : decode cX6_note 87 = .ok (.getfield 13, 3) := by decide +kernel
theorem dX6_note_90 : decode cX6_note 90 = .ok (.aload_n 0, 1) := by decide +kernel
theorem dX6_note_91 : decode cX6_note 91 = .ok (.getfield 50, 3) := by decide +kernel
theorem dX6_note_94 : decode cX6_note 94 = .ok (.iload_n 2, 1) := by decide +kernel
theorem dX6_note_95 : decode cX6_note 95 = .ok (.iastore, 1) := by decide +kernel
theorem dX6_note_96 : decode cX6_note 96 = .ok (.aload_n 0, 1) := by decide +kernel
theorem dX6_note_97 : decode cX6_note 97 = .ok (.dup, 1) := by decide +kernel
theorem dX6_note_98 : decode cX6_note 98 = .ok (.getfield 50, 3) := by decide +kernel
theorem dX6_note_101 : decode cX6_note 101 = .ok (.iconst 1, 1) := by decide +kernel
theorem dX6_note_102 : decode cX6_note 102 = .ok (.iadd, 1) := by decide +kernel
theorem dX6_note_103 : decode cX6_note 103 = .ok (.putfield 50, 3) := by decide +kernel
theorem dX6_note_106 : decode cX6_note 106 = .ok (.aload_n 0, 1) := by decide +kernel
theorem dX6_note_107 : decode cX6_note 107 = .ok (.getfield 50, 3) := by decide +kernel
theorem dX6_note_110 : decode cX6_note 110 = .ok (.iconst 1, 1) := by decide +kernel
theorem dX6_note_111 : decode cX6_note 111 = .ok (.isub, 1) := by decide +kernel
theorem dX6_note_112 : decode cX6_note 112 = .ok (.ireturn, 1) := by decide +kernel
theorem dX6_drop_0 : decode cX6_drop 0 = .ok (.aload_n 0, 1) := by decide +kernel
theorem dX6_drop_1 : decode cX6_drop 1 = .ok (.iconst 0, 1) := by decide +kernel
theorem dX6_drop_2 : decode cX6_drop 2 = .ok (.putfield 46, 3) := by decide +kernel
theorem dX6_drop_5 : decode cX6_drop 5 = .ok (.aload_n 0, 1) := by decide +kernel
theorem dX6_drop_6 : decode cX6_drop 6 = .ok (.iload_n 1, 1) := by decide +kernel
theorem dX6_drop_7 : decode cX6_drop 7 = .ok (.i2l, 1) := by decide +kernel
theorem dX6_drop_8 : decode cX6_drop 8 = .ok (.lconst 0, 1) := by decide +kernel
theorem dX6_drop_9 : decode cX6_drop 9 = .ok (.aload_n 0, 1) := by decide +kernel
theorem dX6_drop_10 : decode cX6_drop 10 = .ok (.getfield 50, 3) := by decide +kernel
theorem dX6_drop_13 : decode cX6_drop 13 = .ok (.i2l, 1) := by decide +kernel
theorem dX6_drop_14 : decode cX6_drop 14 = .ok (.invokestatic 70, 3) := by decide +kernel
theorem dX6_drop_17 : decode cX6_drop 17 = .ok (.iconst 1, 1) := by decide +kernel
theorem dX6_drop_18 : decode cX6_drop 18 = .ok (.invokevirtual 76, 3) := by decide +kernel
theorem dX6_drop_21 : decode cX6_drop 21 = .ok (.ifCond .ne 5, 3) := by decide +kernel
theorem dX6_drop_24 : decode cX6_drop 24 = .ok (.iconst 0, 1) := by decide +kernel
theorem dX6_drop_25 : decode cX6_drop 25 = .ok (.ireturn, 1) := by decide +kernel
theorem dX6_drop_26 : decode cX6_drop 26 = .ok (.aload_n 0, 1) := by decide +kernel
theorem dX6_drop_27 : decode cX6_drop 27 = .ok (.dup, 1) := by decide +kernel
theorem dX6_drop_28 : decode cX6_drop 28 = .ok (.getfield 50, 3) := by decide +kernel
theorem dX6_drop_31 : decode cX6_drop 31 = .ok (.iload_n 1, 1) := by decide +kernel
theorem dX6_drop_32 : decode cX6_drop 32 = .ok (.isub, 1) := by decide +kernel
theorem dX6_drop_33 : decode cX6_drop 33 = .ok (.putfield 50, 3) := by decide +kernel
theorem dX6_drop_36 : decode cX6_drop 36 = .ok (.aload_n 0, 1) := by decide +kernel
theorem dX6_drop_37 : decode cX6_drop 37 = .ok (.getfield 50, 3) := by decide +kernel
theorem dX6_drop_40 : decode cX6_drop 40 = .ok (.ireturn, 1) := by decide +kernel
theorem dX6_many_0 : decode cX6_many 0 = .ok (.iload_n 1, 1) := by decide +kernel
theorem dX6_many_1 : decode cX6_many 1 = .ok (.iconst 1, 1) := by decide +kernel
theorem dX6_many_2 : decode cX6_many 2 = .ok (.if_icmp .eq 8, 3) := by decide +kernel
theorem dX6_many_5 : decode cX6_many 5 = .ok (.iload_n 1, 1) := by decide +kernel
theorem dX6_many_6 : decode cX6_many 6 = .ok (.iconst 2, 1) := by decide +kernel
theorem dX6_many_7 : decode cX6_many 7 = .ok (.if_icmp .ne 23, 3) := by decide +kernel
theorem dX6_many_10 : decode cX6_many 10 = .ok (.aload_n 0, 1) := by decide +kernel
theorem dX6_many_11 : decode cX6_many 11 = .ok (.getfield 50, 3) := by decide +kernel
theorem dX6_many_14 : decode cX6_many 14 = .ok (.ifCond .le 12, 3) := by decide +kernel
theorem dX6_many_17 : decode cX6_many 17 = .ok (.aload_n 0, 1) := by decide +kernel
theorem dX6_many_18 : decode cX6_many 18 = .ok (.getfield 50, 3) := by decide +kernel
theorem dX6_many_21 : decode cX6_many 21 = .ok (.iconst 1, 1) := by decide +kernel
theorem dX6_many_22 : decode cX6_many 22 = .ok (.isub, 1) := by decide +kernel
theorem dX6_many_23 : decode cX6_many 23 = .ok (.goto 11, 3) := by decide +kernel
theorem dX6_many_26 : decode cX6_many 26 = .ok (.iconst 0, 1) := by decide +kernel
theorem dX6_many_27 : decode cX6_many 27 = .ok (.goto 7, 3) := by decide +kernel
theorem dX6_many_30 : decode cX6_many 30 = .ok (.aload_n 0, 1) := by decide +kernel
theorem dX6_many_31 : decode cX6_many 31 = .ok (.getfield 50, 3) := by decide +kernel
theorem dX6_many_34 : decode cX6_many 34 = .ok (.ireturn, 1) := by decide +kernel
theorem dX6_itemOf_0 : decode cX6_itemOf 0 = .ok (.iload_n 1, 1) := by decide +kernel
theorem dX6_itemOf_1 : decode cX6_itemOf 1 = .ok (.tableswitch 105 0 3 #[31, 38, 54, 98], 31) := by decide +kernel
theorem dX6_itemOf_32 : decode cX6_itemOf 32 = .ok (.aload_n 0, 1) := by decide +kernel
theorem dX6_itemOf_33 : decode cX6_itemOf 33 = .ok (.getfield 7, 3) := by decide +kernel
theorem dX6_itemOf_36 : decode cX6_itemOf 36 = .ok (.iload_n 2, 1) := by decide +kernel
theorem dX6_itemOf_37 : decode cX6_itemOf 37 = .ok (.iaload, 1) := by decide +kernel
theorem dX6_itemOf_38 : decode cX6_itemOf 38 = .ok (.ireturn, 1) := by decide +kernel
theorem dX6_itemOf_39 : decode cX6_itemOf 39 = .ok (.aload_n 0, 1) := by decide +kernel
theorem dX6_itemOf_40 : decode cX6_itemOf 40 = .ok (.getfield 7, 3) := by decide +kernel
theorem dX6_itemOf_43 : decode cX6_itemOf 43 = .ok (.iload_n 2, 1) := by decide +kernel
theorem dX6_itemOf_44 : decode cX6_itemOf 44 = .ok (.iconst 1, 1) := by decide +kernel
theorem dX6_itemOf_45 : decode cX6_itemOf 45 = .ok (.iadd, 1) := by decide +kernel
theorem dX6_itemOf_46 : decode cX6_itemOf 46 = .ok (.iaload, 1) := by decide +kernel
theorem dX6_itemOf_47 : decode cX6_itemOf 47 = .ok (.aload_n 0, 1) := by decide +kernel
theorem dX6_itemOf_48 : decode cX6_itemOf 48 = .ok (.getfield 7, 3) := by decide +kernel
theorem dX6_itemOf_51 : decode cX6_itemOf 51 = .ok (.iload_n 2, 1) := by decide +kernel
theorem dX6_itemOf_52 : decode cX6_itemOf 52 = .ok (.iaload, 1) := by decide +kernel
theorem dX6_itemOf_53 : decode cX6_itemOf 53 = .ok (.isub, 1) := by decide +kernel
theorem dX6_itemOf_54 : decode cX6_itemOf 54 = .ok (.ireturn, 1) := by decide +kernel
theorem dX6_itemOf_55 : decode cX6_itemOf 55 = .ok (.aload_n 0, 1) := by decide +kernel
theorem dX6_itemOf_56 : decode cX6_itemOf 56 = .ok (.getfield 7, 3) := by decide +kernel
theorem dX6_itemOf_59 : decode cX6_itemOf 59 = .ok (.iload_n 2, 1) := by decide +kernel
theorem dX6_itemOf_60 : decode cX6_itemOf 60 = .ok (.iconst 1, 1) := by decide +kernel
theorem dX6_itemOf_61 : decode cX6_itemOf 61 = .ok (.iadd, 1) := by decide +kernel
theorem dX6_itemOf_62 : decode cX6_itemOf 62 = .ok (.iaload, 1) := by decide +kernel
theorem dX6_itemOf_63 : decode cX6_itemOf 63 = .ok (.aload_n 0, 1) := by decide +kernel
theorem dX6_itemOf_64 : decode cX6_itemOf 64 = .ok (.getfield 7, 3) := by decide +kernel
theorem dX6_itemOf_67 : decode cX6_itemOf 67 = .ok (.iload_n 2, 1) := by decide +kernel
theorem dX6_itemOf_68 : decode cX6_itemOf 68 = .ok (.iaload, 1) := by decide +kernel
theorem dX6_itemOf_69 : decode cX6_itemOf 69 = .ok (.if_icmp .le 7, 3) := by decide +kernel
theorem dX6_itemOf_72 : decode cX6_itemOf 72 = .ok (.iconst 1, 1) := by decide +kernel
theorem dX6_itemOf_73 : decode cX6_itemOf 73 = .ok (.goto 25, 3) := by decide +kernel
theorem dX6_itemOf_76 : decode cX6_itemOf 76 = .ok (.aload_n 0, 1) := by decide +kernel
theorem dX6_itemOf_77 : decode cX6_itemOf 77 = .ok (.getfield 7, 3) := by decide +kernel
theorem dX6_itemOf_80 : decode cX6_itemOf 80 = .ok (.iload_n 2, 1) := by decide +kernel
theorem dX6_itemOf_81 : decode cX6_itemOf 81 = .ok (.iconst 1, 1) := by decide +kernel
theorem dX6_itemOf_82 : decode cX6_itemOf 82 = .ok (.iadd, 1) := by decide +kernel
theorem dX6_itemOf_83 : decode cX6_itemOf 83 = .ok (.iaload, 1) := by decide +kernel
theorem dX6_itemOf_84 : decode cX6_itemOf 84 = .ok (.aload_n 0, 1) := by decide +kernel
theorem dX6_itemOf_85 : decode cX6_itemOf 85 = .ok (.getfield 7, 3) := by decide +kernel
theorem dX6_itemOf_88 : decode cX6_itemOf 88 = .ok (.iload_n 2, 1) := by decide +kernel
theorem dX6_itemOf_89 : decode cX6_itemOf 89 = .ok (.iaload, 1) := by decide +kernel
theorem dX6_itemOf_90 : decode cX6_itemOf 90 = .ok (.if_icmp .ge 7, 3) := by decide +kernel
theorem dX6_itemOf_93 : decode cX6_itemOf 93 = .ok (.iconst (-1), 1) := by decide +kernel
theorem dX6_itemOf_94 : decode cX6_itemOf 94 = .ok (.goto 4, 3) := by decide +kernel
theorem dX6_itemOf_97 : decode cX6_itemOf 97 = .ok (.iconst 0, 1) := by decide +kernel
theorem dX6_itemOf_98 : decode cX6_itemOf 98 = .ok (.ireturn, 1) := by decide +kernel
theorem dX6_itemOf_99 : decode cX6_itemOf 99 = .ok (.aload_n 0, 1) := by decide +kernel
theorem dX6_itemOf_100 : decode cX6_itemOf 100 = .ok (.getfield 13, 3) := by decide +kernel
theorem dX6_itemOf_103 : decode cX6_itemOf 103 = .ok (.iload_n 2, 1) := by decide +kernel
theorem dX6_itemOf_104 : decode cX6_itemOf 104 = .ok (.iaload, 1) := by decide +kernel
theorem dX6_itemOf_105 : decode cX6_itemOf 105 = .ok (.ireturn, 1) := by decide +kernel
theorem dX6_itemOf_106 : decode cX6_itemOf 106 = .ok (.sipush 1000, 3) := by decide +kernel
theorem dX6_itemOf_109 : decode cX6_itemOf 109 = .ok (.aload_n 0, 1) := by decide +kernel
theorem dX6_itemOf_110 : decode cX6_itemOf 110 = .ok (.getfield 7, 3) := by decide +kernel
theorem dX6_itemOf_113 : decode cX6_itemOf 113 = .ok (.iload_n 2, 1) := by decide +kernel
theorem dX6_itemOf_114 : decode cX6_itemOf 114 = .ok (.iaload, 1) := by decide +kernel
theorem dX6_itemOf_115 : decode cX6_itemOf 115 = .ok (.imul, 1) := by decide +kernel
theorem dX6_itemOf_116 : decode cX6_itemOf 116 = .ok (.aload_n 0, 1) := by decide +kernel
theorem dX6_itemOf_117 : decode cX6_itemOf 117 = .ok (.getfield 13, 3) := by decide +kernel
theorem dX6_itemOf_120 : decode cX6_itemOf 120 = .ok (.iload_n 2, 1) := by decide +kernel
theorem dX6_itemOf_121 : decode cX6_itemOf 121 = .ok (.iaload, 1) := by decide +kernel
theorem dX6_itemOf_122 : decode cX6_itemOf 122 = .ok (.iadd, 1) := by decide +kernel
theorem dX6_itemOf_123 : decode cX6_itemOf 123 = .ok (.ireturn, 1) := by decide +kernel
theorem dX6_isView_0 : decode cX6_isView 0 = .ok (.iload_n 0, 1) := by decide +kernel
theorem dX6_isView_1 : decode cX6_isView 1 = .ok (.i2l, 1) := by decide +kernel
theorem dX6_isView_2 : decode cX6_isView 2 = .ok (.lconst 0, 1) := by decide +kernel
theorem dX6_isView_3 : decode cX6_isView 3 = .ok (.ldc2_w 80, 3) := by decide +kernel
theorem dX6_isView_6 : decode cX6_isView 6 = .ok (.invokestatic 70, 3) := by decide +kernel
theorem dX6_isView_9 : decode cX6_isView 9 = .ok (.ireturn, 1) := by decide +kernel
theorem dX6_items_0 : decode cX6_items 0 = .ok (.aload_n 0, 1) := by decide +kernel
theorem dX6_items_1 : decode cX6_items 1 = .ok (.iconst 0, 1) := by decide +kernel
theorem dX6_items_2 : decode cX6_items 2 = .ok (.putfield 46, 3) := by decide +kernel
theorem dX6_items_5 : decode cX6_items 5 = .ok (.aload_n 0, 1) := by decide +kernel
theorem dX6_items_6 : decode cX6_items 6 = .ok (.iload_n 1, 1) := by decide +kernel
theorem dX6_items_7 : decode cX6_items 7 = .ok (.invokestatic 82, 3) := by decide +kernel
theorem dX6_items_10 : decode cX6_items 10 = .ok (.iconst 1, 1) := by decide +kernel
theorem dX6_items_11 : decode cX6_items 11 = .ok (.invokevirtual 76, 3) := by decide +kernel
theorem dX6_items_14 : decode cX6_items 14 = .ok (.ifCond .eq 11, 3) := by decide +kernel
theorem dX6_items_17 : decode cX6_items 17 = .ok (.aload_n 0, 1) := by decide +kernel
theorem dX6_items_18 : decode cX6_items 18 = .ok (.iload_n 1, 1) := by decide +kernel
theorem dX6_items_19 : decode cX6_items 19 = .ok (.invokevirtual 86, 3) := by decide +kernel
theorem dX6_items_22 : decode cX6_items 22 = .ok (.goto 4, 3) := by decide +kernel
theorem dX6_items_25 : decode cX6_items 25 = .ok (.iconst 0, 1) := by decide +kernel
theorem dX6_items_26 : decode cX6_items 26 = .ok (.ireturn, 1) := by decide +kernel
theorem dX6_item_0 : decode cX6_item 0 = .ok (.aload_n 0, 1) := by decide +kernel
theorem dX6_item_1 : decode cX6_item 1 = .ok (.iconst 0, 1) := by decide +kernel
theorem dX6_item_2 : decode cX6_item 2 = .ok (.putfield 46, 3) := by decide +kernel
theorem dX6_item_5 : decode cX6_item 5 = .ok (.aload_n 0, 1) := by decide +kernel
theorem dX6_item_6 : decode cX6_item 6 = .ok (.iload_n 1, 1) := by decide +kernel
theorem dX6_item_7 : decode cX6_item 7 = .ok (.invokestatic 82, 3) := by decide +kernel
theorem dX6_item_10 : decode cX6_item 10 = .ok (.ifCond .eq 24, 3) := by decide +kernel
theorem dX6_item_13 : decode cX6_item 13 = .ok (.iload_n 2, 1) := by decide +kernel
theorem dX6_item_14 : decode cX6_item 14 = .ok (.i2l, 1) := by decide +kernel
theorem dX6_item_15 : decode cX6_item 15 = .ok (.lconst 0, 1) := by decide +kernel
theorem dX6_item_16 : decode cX6_item 16 = .ok (.aload_n 0, 1) := by decide +kernel
theorem dX6_item_17 : decode cX6_item 17 = .ok (.iload_n 1, 1) := by decide +kernel
theorem dX6_item_18 : decode cX6_item 18 = .ok (.invokevirtual 86, 3) := by decide +kernel
theorem dX6_item_21 : decode cX6_item 21 = .ok (.iconst 1, 1) := by decide +kernel
theorem dX6_item_22 : decode cX6_item 22 = .ok (.isub, 1) := by decide +kernel
theorem dX6_item_23 : decode cX6_item 23 = .ok (.i2l, 1) := by decide +kernel
theorem dX6_item_24 : decode cX6_item 24 = .ok (.invokestatic 70, 3) := by decide +kernel
theorem dX6_item_27 : decode cX6_item 27 = .ok (.ifCond .eq 7, 3) := by decide +kernel
theorem dX6_item_30 : decode cX6_item 30 = .ok (.iconst 1, 1) := by decide +kernel
theorem dX6_item_31 : decode cX6_item 31 = .ok (.goto 4, 3) := by decide +kernel
theorem dX6_item_34 : decode cX6_item 34 = .ok (.iconst 0, 1) := by decide +kernel
theorem dX6_item_35 : decode cX6_item 35 = .ok (.iconst 1, 1) := by decide +kernel
theorem dX6_item_36 : decode cX6_item 36 = .ok (.invokevirtual 76, 3) := by decide +kernel
theorem dX6_item_39 : decode cX6_item 39 = .ok (.ifCond .eq 12, 3) := by decide +kernel
theorem dX6_item_42 : decode cX6_item 42 = .ok (.aload_n 0, 1) := by decide +kernel
theorem dX6_item_43 : decode cX6_item 43 = .ok (.iload_n 1, 1) := by decide +kernel
theorem dX6_item_44 : decode cX6_item 44 = .ok (.iload_n 2, 1) := by decide +kernel
theorem dX6_item_45 : decode cX6_item 45 = .ok (.invokevirtual 90, 3) := by decide +kernel
theorem dX6_item_48 : decode cX6_item 48 = .ok (.goto 4, 3) := by decide +kernel
theorem dX6_item_51 : decode cX6_item 51 = .ok (.iconst 0, 1) := by decide +kernel
theorem dX6_item_52 : decode cX6_item 52 = .ok (.ireturn, 1) := by decide +kernel
theorem dX6_common_0 : decode cX6_common 0 = .ok (.iconst 0, 1) := by decide +kernel
theorem dX6_common_1 : decode cX6_common 1 = .ok (.istore 4, 2) := by decide +kernel
theorem dX6_common_3 : decode cX6_common 3 = .ok (.iload_n 3, 1) := by decide +kernel
theorem dX6_common_4 : decode cX6_common 4 = .ok (.iload 4, 2) := by decide +kernel
theorem dX6_common_6 : decode cX6_common 6 = .ok (.iadd, 1) := by decide +kernel
theorem dX6_common_7 : decode cX6_common 7 = .ok (.aload_n 0, 1) := by decide +kernel
theorem dX6_common_8 : decode cX6_common 8 = .ok (.iload_n 1, 1) := by decide +kernel
theorem dX6_common_9 : decode cX6_common 9 = .ok (.invokevirtual 86, 3) := by decide +kernel
theorem dX6_common_12 : decode cX6_common 12 = .ok (.if_icmp .ge 30, 3) := by decide +kernel
theorem dX6_common_15 : decode cX6_common 15 = .ok (.aload_n 0, 1) := by decide +kernel
theorem dX6_common_16 : decode cX6_common 16 = .ok (.iload_n 1, 1) := by decide +kernel
theorem dX6_common_17 : decode cX6_common 17 = .ok (.iload_n 2, 1) := by decide +kernel
theorem dX6_common_18 : decode cX6_common 18 = .ok (.iload 4, 2) := by decide +kernel
theorem dX6_common_20 : decode cX6_common 20 = .ok (.iadd, 1) := by decide +kernel
theorem dX6_common_21 : decode cX6_common 21 = .ok (.invokevirtual 90, 3) := by decide +kernel
theorem dX6_common_24 : decode cX6_common 24 = .ok (.aload_n 0, 1) := by decide +kernel
theorem dX6_common_25 : decode cX6_common 25 = .ok (.iload_n 1, 1) := by decide +kernel
theorem dX6_common_26 : decode cX6_common 26 = .ok (.iload_n 3, 1) := by decide +kernel
theorem dX6_common_27 : decode cX6_common 27 = .ok (.iload 4, 2) := by decide +kernel
theorem dX6_common_29 : decode cX6_common 29 = .ok (.iadd, 1) := by decide +kernel
theorem dX6_common_30 : decode cX6_common 30 = .ok (.invokevirtual 90, 3) := by decide +kernel
theorem dX6_common_33 : decode cX6_common 33 = .ok (.if_icmp .ne 9, 3) := by decide +kernel
theorem dX6_common_36 : decode cX6_common 36 = .ok (.iinc 4 1, 3) := by decide +kernel
theorem dX6_common_39 : decode cX6_common 39 = .ok (.goto (-36), 3) := by decide +kernel
theorem dX6_common_42 : decode cX6_common 42 = .ok (.iload 4, 2) := by decide +kernel
theorem dX6_common_44 : decode cX6_common 44 = .ok (.ireturn, 1) := by decide +kernel
theorem dX6_repeats_0 : decode cX6_repeats 0 = .ok (.aload_n 0, 1) := by decide +kernel
theorem dX6_repeats_1 : decode cX6_repeats 1 = .ok (.iconst 0, 1) := by decide +kernel
theorem dX6_repeats_2 : decode cX6_repeats 2 = .ok (.putfield 46, 3) := by decide +kernel
theorem dX6_repeats_5 : decode cX6_repeats 5 = .ok (.aload_n 0, 1) := by decide +kernel
theorem dX6_repeats_6 : decode cX6_repeats 6 = .ok (.iload_n 1, 1) := by decide +kernel
theorem dX6_repeats_7 : decode cX6_repeats 7 = .ok (.invokestatic 82, 3) := by decide +kernel
theorem dX6_repeats_10 : decode cX6_repeats 10 = .ok (.ifCond .eq 19, 3) := by decide +kernel
theorem dX6_repeats_13 : decode cX6_repeats 13 = .ok (.iload_n 2, 1) := by decide +kernel
theorem dX6_repeats_14 : decode cX6_repeats 14 = .ok (.i2l, 1) := by decide +kernel
theorem dX6_repeats_15 : decode cX6_repeats 15 = .ok (.lconst 1, 1) := by decide +kernel
theorem dX6_repeats_16 : decode cX6_repeats 16 = .ok (.ldc2_w 94, 3) := by decide +kernel
theorem dX6_repeats_19 : decode cX6_repeats 19 = .ok (.invokestatic 70, 3) := by decide +kernel
theorem dX6_repeats_22 : decode cX6_repeats 22 = .ok (.ifCond .eq 7, 3) := by decide +kernel
theorem dX6_repeats_25 : decode cX6_repeats 25 = .ok (.iconst 1, 1) := by decide +kernel
theorem dX6_repeats_26 : decode cX6_repeats 26 = .ok (.goto 4, 3) := by decide +kernel
theorem dX6_repeats_29 : decode cX6_repeats 29 = .ok (.iconst 0, 1) := by decide +kernel
theorem dX6_repeats_30 : decode cX6_repeats 30 = .ok (.iconst 1, 1) := by decide +kernel
theorem dX6_repeats_31 : decode cX6_repeats 31 = .ok (.invokevirtual 76, 3) := by decide +kernel
theorem dX6_repeats_34 : decode cX6_repeats 34 = .ok (.ifCond .ne 5, 3) := by decide +kernel
theorem dX6_repeats_37 : decode cX6_repeats 37 = .ok (.iconst 0, 1) := by decide +kernel
theorem dX6_repeats_38 : decode cX6_repeats 38 = .ok (.ireturn, 1) := by decide +kernel
theorem dX6_repeats_39 : decode cX6_repeats 39 = .ok (.aload_n 0, 1) := by decide +kernel
theorem dX6_repeats_40 : decode cX6_repeats 40 = .ok (.iconst 0, 1) := by decide +kernel
theorem dX6_repeats_41 : decode cX6_repeats 41 = .ok (.putfield 53, 3) := by decide +kernel
theorem dX6_repeats_44 : decode cX6_repeats 44 = .ok (.aload_n 0, 1) := by decide +kernel
theorem dX6_repeats_45 : decode cX6_repeats 45 = .ok (.iload_n 1, 1) := by decide +kernel
theorem dX6_repeats_46 : decode cX6_repeats 46 = .ok (.invokevirtual 86, 3) := by decide +kernel
theorem dX6_repeats_49 : decode cX6_repeats 49 = .ok (.istore_n 3, 1) := by decide +kernel
theorem dX6_repeats_50 : decode cX6_repeats 50 = .ok (.iload_n 3, 1) := by decide +kernel
theorem dX6_repeats_51 : decode cX6_repeats 51 = .ok (.iload_n 2, 1) := by decide +kernel
theorem dX6_repeats_52 : decode cX6_repeats 52 = .ok (.if_icmp .lt 153, 3) := by decide +kernel
theorem dX6_repeats_55 : decode cX6_repeats 55 = .ok (.iconst 0, 1) := by decide +kernel
theorem dX6_repeats_56 : decode cX6_repeats 56 = .ok (.istore 4, 2) := by decide +kernel
theorem dX6_repeats_58 : decode cX6_repeats 58 = .ok (.iload 4, 2) := by decide +kernel
theorem dX6_repeats_60 : decode cX6_repeats 60 = .ok (.aload_n 0, 1) := by decide +kernel
theorem dX6_repeats_61 : decode cX6_repeats 61 = .ok (.iload_n 1, 1) := by decide +kernel
theorem dX6_repeats_62 : decode cX6_repeats 62 = .ok (.invokevirtual 86, 3) := by decide +kernel
theorem dX6_repeats_65 : decode cX6_repeats 65 = .ok (.if_icmp .ge 134, 3) := by decide +kernel
theorem dX6_repeats_68 : decode cX6_repeats 68 = .ok (.iload 4, 2) := by decide +kernel
theorem dX6_repeats_70 : decode cX6_repeats 70 = .ok (.iconst 1, 1) := by decide +kernel
theorem dX6_repeats_71 : decode cX6_repeats 71 = .ok (.iadd, 1) := by decide +kernel
theorem dX6_repeats_72 : decode cX6_repeats 72 = .ok (.istore 5, 2) := by decide +kernel
theorem dX6_repeats_74 : decode cX6_repeats 74 = .ok (.iload 5, 2) := by decide +kernel
theorem dX6_repeats_76 : decode cX6_repeats 76 = .ok (.aload_n 0, 1) := by decide +kernel
theorem dX6_repeats_77 : decode cX6_repeats 77 = .ok (.iload_n 1, 1) := by decide +kernel
theorem dX6_repeats_78 : decode cX6_repeats 78 = .ok (.invokevirtual 86, 3) := by decide +kernel
theorem dX6_repeats_81 : decode cX6_repeats 81 = .ok (.if_icmp .ge 112, 3) := by decide +kernel
theorem dX6_repeats_84 : decode cX6_repeats 84 = .ok (.iload 4, 2) := by decide +kernel
theorem dX6_repeats_86 : decode cX6_repeats 86 = .ok (.ifCond .eq 24, 3) := by decide +kernel
theorem dX6_repeats_89 : decode cX6_repeats 89 = .ok (.aload_n 0, 1) := by decide +kernel
theorem dX6_repeats_90 : decode cX6_repeats 90 = .ok (.iload_n 1, 1) := by decide +kernel
theorem dX6_repeats_91 : decode cX6_repeats 91 = .ok (.iload 4, 2) := by decide +kernel
theorem dX6_repeats_93 : decode cX6_repeats 93 = .ok (.iconst 1, 1) := by decide +kernel
theorem dX6_repeats_94 : decode cX6_repeats 94 = .ok (.isub, 1) := by decide +kernel
theorem dX6_repeats_95 : decode cX6_repeats 95 = .ok (.invokevirtual 90, 3) := by decide +kernel
theorem dX6_repeats_98 : decode cX6_repeats 98 = .ok (.aload_n 0, 1) := by decide +kernel
theorem dX6_repeats_99 : decode cX6_repeats 99 = .ok (.iload_n 1, 1) := by decide +kernel
theorem dX6_repeats_100 : decode cX6_repeats 100 = .ok (.iload 5, 2) := by decide +kernel
theorem dX6_repeats_102 : decode cX6_repeats 102 = .ok (.iconst 1, 1) := by decide +kernel
theorem dX6_repeats_103 : decode cX6_repeats 103 = .ok (.isub, 1) := by decide +kernel
theorem dX6_repeats_104 : decode cX6_repeats 104 = .ok (.invokevirtual 90, 3) := by decide +kernel
theorem dX6_repeats_107 : decode cX6_repeats 107 = .ok (.if_icmp .eq 7, 3) := by decide +kernel
theorem dX6_repeats_110 : decode cX6_repeats 110 = .ok (.iconst 1, 1) := by decide +kernel
theorem dX6_repeats_111 : decode cX6_repeats 111 = .ok (.goto 4, 3) := by decide +kernel
theorem dX6_repeats_114 : decode cX6_repeats 114 = .ok (.iconst 0, 1) := by decide +kernel
theorem dX6_repeats_115 : decode cX6_repeats 115 = .ok (.istore 6, 2) := by decide +kernel
theorem dX6_repeats_117 : decode cX6_repeats 117 = .ok (.iload 6, 2) := by decide +kernel
theorem dX6_repeats_119 : decode cX6_repeats 119 = .ok (.ifCond .eq 68, 3) := by decide +kernel
theorem dX6_repeats_122 : decode cX6_repeats 122 = .ok (.aload_n 0, 1) := by decide +kernel
theorem dX6_repeats_123 : decode cX6_repeats 123 = .ok (.iload_n 1, 1) := by decide +kernel
theorem dX6_repeats_124 : decode cX6_repeats 124 = .ok (.iload 4, 2) := by decide +kernel
theorem dX6_repeats_126 : decode cX6_repeats 126 = .ok (.iload 5, 2) := by decide +kernel
theorem dX6_repeats_128 : decode cX6_repeats 128 = .ok (.invokevirtual 96, 3) := by decide +kernel
theorem dX6_repeats_131 : decode cX6_repeats 131 = .ok (.iload_n 3, 1) := by decide +kernel
theorem dX6_repeats_132 : decode cX6_repeats 132 = .ok (.if_icmp .ne 55, 3) := by decide +kernel
theorem dX6_repeats_135 : decode cX6_repeats 135 = .ok (.aload_n 0, 1) := by decide +kernel
theorem dX6_repeats_136 : decode cX6_repeats 136 = .ok (.getfield 16, 3) := by decide +kernel
theorem dX6_repeats_139 : decode cX6_repeats 139 = .ok (.iconst 3, 1) := by decide +kernel
theorem dX6_repeats_140 : decode cX6_repeats 140 = .ok (.aload_n 0, 1) := by decide +kernel
theorem dX6_repeats_141 : decode cX6_repeats 141 = .ok (.getfield 53, 3) := by decide +kernel
theorem dX6_repeats_144 : decode cX6_repeats 144 = .ok (.imul, 1) := by decide +kernel
theorem dX6_repeats_145 : decode cX6_repeats 145 = .ok (.iload 4, 2) := by decide +kernel
theorem dX6_repeats_147 : decode cX6_repeats 147 = .ok (.iastore, 1) := by decide +kernel
theorem dX6_repeats_148 : decode cX6_repeats 148 = .ok (.aload_n 0, 1) := by decide +kernel
theorem dX6_repeats_149 : decode cX6_repeats 149 = .ok (.getfield 16, 3) := by decide +kernel
theorem dX6_repeats_152 : decode cX6_repeats 152 = .ok (.iconst 3, 1) := by decide +kernel
theorem dX6_repeats_153 : decode cX6_repeats 153 = .ok (.aload_n 0, 1) := by decide +kernel
theorem dX6_repeats_154 : decode cX6_repeats 154 = .ok (.getfield 53, 3) := by decide +kernel
theorem dX6_repeats_157 : decode cX6_repeats 157 = .ok (.imul, 1) := by decide +kernel
theorem dX6_repeats_158 : decode cX6_repeats 158 = .ok (.iconst 1, 1) := by decide +kernel
theorem dX6_repeats_159 : decode cX6_repeats 159 = .ok (.iadd, 1) := by decide +kernel
theorem dX6_repeats_160 : decode cX6_repeats 160 = .ok (.iload 5, 2) := by decide +kernel
theorem dX6_repeats_162 : decode cX6_repeats 162 = .ok (.iastore, 1) := by decide +kernel
theorem dX6_repeats_163 : decode cX6_repeats 163 = .ok (.aload_n 0, 1) := by decide +kernel
theorem dX6_repeats_164 : decode cX6_repeats 164 = .ok (.getfield 16, 3) := by decide +kernel
theorem dX6_repeats_167 : decode cX6_repeats 167 = .ok (.iconst 3, 1) := by decide +kernel
theorem dX6_repeats_168 : decode cX6_repeats 168 = .ok (.aload_n 0, 1) := by decide +kernel
theorem dX6_repeats_169 : decode cX6_repeats 169 = .ok (.getfield 53, 3) := by decide +kernel
theorem dX6_repeats_172 : decode cX6_repeats 172 = .ok (.imul, 1) := by decide +kernel
theorem dX6_repeats_173 : decode cX6_repeats 173 = .ok (.iconst 2, 1) := by decide +kernel
theorem dX6_repeats_174 : decode cX6_repeats 174 = .ok (.iadd, 1) := by decide +kernel
theorem dX6_repeats_175 : decode cX6_repeats 175 = .ok (.iload_n 3, 1) := by decide +kernel
theorem dX6_repeats_176 : decode cX6_repeats 176 = .ok (.iastore, 1) := by decide +kernel
theorem dX6_repeats_177 : decode cX6_repeats 177 = .ok (.aload_n 0, 1) := by decide +kernel
theorem dX6_repeats_178 : decode cX6_repeats 178 = .ok (.dup, 1) := by decide +kernel
theorem dX6_repeats_179 : decode cX6_repeats 179 = .ok (.getfield 53, 3) := by decide +kernel
theorem dX6_repeats_182 : decode cX6_repeats 182 = .ok (.iconst 1, 1) := by decide +kernel
theorem dX6_repeats_183 : decode cX6_repeats 183 = .ok (.iadd, 1) := by decide +kernel
theorem dX6_repeats_184 : decode cX6_repeats 184 = .ok (.putfield 53, 3) := by decide +kernel
theorem dX6_repeats_187 : decode cX6_repeats 187 = .ok (.iinc 5 1, 3) := by decide +kernel
theorem dX6_repeats_190 : decode cX6_repeats 190 = .ok (.goto (-116), 3) := by decide +kernel
theorem dX6_repeats_193 : decode cX6_repeats 193 = .ok (.iinc 4 1, 3) := by decide +kernel
theorem dX6_repeats_196 : decode cX6_repeats 196 = .ok (.goto (-138), 3) := by decide +kernel
theorem dX6_repeats_199 : decode cX6_repeats 199 = .ok (.iinc 3 (-1), 3) := by decide +kernel
theorem dX6_repeats_202 : decode cX6_repeats 202 = .ok (.goto (-152), 3) := by decide +kernel
theorem dX6_repeats_205 : decode cX6_repeats 205 = .ok (.aload_n 0, 1) := by decide +kernel
theorem dX6_repeats_206 : decode cX6_repeats 206 = .ok (.getfield 53, 3) := by decide +kernel
theorem dX6_repeats_209 : decode cX6_repeats 209 = .ok (.ireturn, 1) := by decide +kernel
theorem dX6_repeat_0 : decode cX6_repeat 0 = .ok (.aload_n 0, 1) := by decide +kernel
theorem dX6_repeat_1 : decode cX6_repeat 1 = .ok (.iconst 0, 1) := by decide +kernel
theorem dX6_repeat_2 : decode cX6_repeat 2 = .ok (.putfield 46, 3) := by decide +kernel
theorem dX6_repeat_5 : decode cX6_repeat 5 = .ok (.aload_n 0, 1) := by decide +kernel
theorem dX6_repeat_6 : decode cX6_repeat 6 = .ok (.iload_n 1, 1) := by decide +kernel
theorem dX6_repeat_7 : decode cX6_repeat 7 = .ok (.i2l, 1) := by decide +kernel
theorem dX6_repeat_8 : decode cX6_repeat 8 = .ok (.lconst 0, 1) := by decide +kernel
theorem dX6_repeat_9 : decode cX6_repeat 9 = .ok (.aload_n 0, 1) := by decide +kernel
theorem dX6_repeat_10 : decode cX6_repeat 10 = .ok (.getfield 53, 3) := by decide +kernel
theorem dX6_repeat_13 : decode cX6_repeat 13 = .ok (.iconst 1, 1) := by decide +kernel
theorem dX6_repeat_14 : decode cX6_repeat 14 = .ok (.isub, 1) := by decide +kernel
theorem dX6_repeat_15 : decode cX6_repeat 15 = .ok (.i2l, 1) := by decide +kernel
theorem dX6_repeat_16 : decode cX6_repeat 16 = .ok (.invokestatic 70, 3) := by decide +kernel
theorem dX6_repeat_19 : decode cX6_repeat 19 = .ok (.ifCond .eq 19, 3) := by decide +kernel
theorem dX6_repeat_22 : decode cX6_repeat 22 = .ok (.iload_n 2, 1) := by decide +kernel
theorem dX6_repeat_23 : decode cX6_repeat 23 = .ok (.i2l, 1) := by decide +kernel
theorem dX6_repeat_24 : decode cX6_repeat 24 = .ok (.lconst 0, 1) := by decide +kernel
theorem dX6_repeat_25 : decode cX6_repeat 25 = .ok (.ldc2_w 100, 3) := by decide +kernel
theorem dX6_repeat_28 : decode cX6_repeat 28 = .ok (.invokestatic 70, 3) := by decide +kernel
theorem dX6_repeat_31 : decode cX6_repeat 31 = .ok (.ifCond .eq 7, 3) := by decide +kernel
theorem dX6_repeat_34 : decode cX6_repeat 34 = .ok (.iconst 1, 1) := by decide +kernel
theorem dX6_repeat_35 : decode cX6_repeat 35 = .ok (.goto 4, 3) := by decide +kernel
theorem dX6_repeat_38 : decode cX6_repeat 38 = .ok (.iconst 0, 1) := by decide +kernel
theorem dX6_repeat_39 : decode cX6_repeat 39 = .ok (.iconst 1, 1) := by decide +kernel
theorem dX6_repeat_40 : decode cX6_repeat 40 = .ok (.invokevirtual 76, 3) := by decide +kernel
theorem dX6_repeat_43 : decode cX6_repeat 43 = .ok (.ifCond .eq 16, 3) := by decide +kernel
theorem dX6_repeat_46 : decode cX6_repeat 46 = .ok (.aload_n 0, 1) := by decide +kernel
theorem dX6_repeat_47 : decode cX6_repeat 47 = .ok (.getfield 16, 3) := by decide +kernel
theorem dX6_repeat_50 : decode cX6_repeat 50 = .ok (.iconst 3, 1) := by decide +kernel
theorem dX6_repeat_51 : decode cX6_repeat 51 = .ok (.iload_n 1, 1) := by decide +kernel
theorem dX6_repeat_52 : decode cX6_repeat 52 = .ok (.imul, 1) := by decide +kernel
theorem dX6_repeat_53 : decode cX6_repeat 53 = .ok (.iload_n 2, 1) := by decide +kernel
theorem dX6_repeat_54 : decode cX6_repeat 54 = .ok (.iadd, 1) := by decide +kernel
theorem dX6_repeat_55 : decode cX6_repeat 55 = .ok (.iaload, 1) := by decide +kernel
theorem dX6_repeat_56 : decode cX6_repeat 56 = .ok (.goto 4, 3) := by decide +kernel
theorem dX6_repeat_59 : decode cX6_repeat 59 = .ok (.iconst 0, 1) := by decide +kernel
theorem dX6_repeat_60 : decode cX6_repeat 60 = .ok (.ireturn, 1) := by decide +kernel
theorem dX6_passages_0 : decode cX6_passages 0 = .ok (.aload_n 0, 1) := by decide +kernel
theorem dX6_passages_1 : decode cX6_passages 1 = .ok (.iconst 0, 1) := by decide +kernel
theorem dX6_passages_2 : decode cX6_passages 2 = .ok (.putfield 46, 3) := by decide +kernel
theorem dX6_passages_5 : decode cX6_passages 5 = .ok (.aload_n 0, 1) := by decide +kernel
theorem dX6_passages_6 : decode cX6_passages 6 = .ok (.iload_n 1, 1) := by decide +kernel
theorem dX6_passages_7 : decode cX6_passages 7 = .ok (.invokestatic 82, 3) := by decide +kernel
theorem dX6_passages_10 : decode cX6_passages 10 = .ok (.ifCond .eq 19, 3) := by decide +kernel
theorem dX6_passages_13 : decode cX6_passages 13 = .ok (.iload_n 2, 1) := by decide +kernel
theorem dX6_passages_14 : decode cX6_passages 14 = .ok (.i2l, 1) := by decide +kernel
theorem dX6_passages_15 : decode cX6_passages 15 = .ok (.lconst 1, 1) := by decide +kernel
theorem dX6_passages_16 : decode cX6_passages 16 = .ok (.ldc2_w 94, 3) := by decide +kernel
theorem dX6_passages_19 : decode cX6_passages 19 = .ok (.invokestatic 70, 3) := by decide +kernel
theorem dX6_passages_22 : decode cX6_passages 22 = .ok (.ifCond .eq 7, 3) := by decide +kernel
theorem dX6_passages_25 : decode cX6_passages 25 = .ok (.iconst 1, 1) := by decide +kernel
theorem dX6_passages_26 : decode cX6_passages 26 = .ok (.goto 4, 3) := by decide +kernel
theorem dX6_passages_29 : decode cX6_passages 29 = .ok (.iconst 0, 1) := by decide +kernel
theorem dX6_passages_30 : decode cX6_passages 30 = .ok (.iconst 1, 1) := by decide +kernel
theorem dX6_passages_31 : decode cX6_passages 31 = .ok (.invokevirtual 76, 3) := by decide +kernel
theorem dX6_passages_34 : decode cX6_passages 34 = .ok (.ifCond .ne 5, 3) := by decide +kernel
theorem dX6_passages_37 : decode cX6_passages 37 = .ok (.iconst 0, 1) := by decide +kernel
theorem dX6_passages_38 : decode cX6_passages 38 = .ok (.ireturn, 1) := by decide +kernel
theorem dX6_passages_39 : decode cX6_passages 39 = .ok (.iconst 0, 1) := by decide +kernel
theorem dX6_passages_40 : decode cX6_passages 40 = .ok (.istore_n 3, 1) := by decide +kernel
theorem dX6_passages_41 : decode cX6_passages 41 = .ok (.iconst 0, 1) := by decide +kernel
theorem dX6_passages_42 : decode cX6_passages 42 = .ok (.istore 4, 2) := by decide +kernel
theorem dX6_passages_44 : decode cX6_passages 44 = .ok (.iload 4, 2) := by decide +kernel
theorem dX6_passages_46 : decode cX6_passages 46 = .ok (.iload_n 2, 1) := by decide +kernel
theorem dX6_passages_47 : decode cX6_passages 47 = .ok (.iadd, 1) := by decide +kernel
theorem dX6_passages_48 : decode cX6_passages 48 = .ok (.aload_n 0, 1) := by decide +kernel
theorem dX6_passages_49 : decode cX6_passages 49 = .ok (.iload_n 1, 1) := by decide +kernel
theorem dX6_passages_50 : decode cX6_passages 50 = .ok (.invokevirtual 86, 3) := by decide +kernel
theorem dX6_passages_53 : decode cX6_passages 53 = .ok (.if_icmp .gt 66, 3) := by decide +kernel
theorem dX6_passages_56 : decode cX6_passages 56 = .ok (.iconst 1, 1) := by decide +kernel
theorem dX6_passages_57 : decode cX6_passages 57 = .ok (.istore 5, 2) := by decide +kernel
theorem dX6_passages_59 : decode cX6_passages 59 = .ok (.iconst 0, 1) := by decide +kernel
theorem dX6_passages_60 : decode cX6_passages 60 = .ok (.istore 6, 2) := by decide +kernel
theorem dX6_passages_62 : decode cX6_passages 62 = .ok (.iload 6, 2) := by decide +kernel
theorem dX6_passages_64 : decode cX6_passages 64 = .ok (.iload 4, 2) := by decide +kernel
theorem dX6_passages_66 : decode cX6_passages 66 = .ok (.if_icmp .ge 34, 3) := by decide +kernel
theorem dX6_passages_69 : decode cX6_passages 69 = .ok (.iload 5, 2) := by decide +kernel
theorem dX6_passages_71 : decode cX6_passages 71 = .ok (.ifCond .eq 20, 3) := by decide +kernel
theorem dX6_passages_74 : decode cX6_passages 74 = .ok (.aload_n 0, 1) := by decide +kernel
theorem dX6_passages_75 : decode cX6_passages 75 = .ok (.iload_n 1, 1) := by decide +kernel
theorem dX6_passages_76 : decode cX6_passages 76 = .ok (.iload 6, 2) := by decide +kernel
theorem dX6_passages_78 : decode cX6_passages 78 = .ok (.iload 4, 2) := by decide +kernel
theorem dX6_passages_80 : decode cX6_passages 80 = .ok (.invokevirtual 96, 3) := by decide +kernel
theorem dX6_passages_83 : decode cX6_passages 83 = .ok (.iload_n 2, 1) := by decide +kernel
theorem dX6_passages_84 : decode cX6_passages 84 = .ok (.if_icmp .ge 7, 3) := by decide +kernel
theorem dX6_passages_87 : decode cX6_passages 87 = .ok (.iconst 1, 1) := by decide +kernel
theorem dX6_passages_88 : decode cX6_passages 88 = .ok (.goto 4, 3) := by decide +kernel
theorem dX6_passages_91 : decode cX6_passages 91 = .ok (.iconst 0, 1) := by decide +kernel
theorem dX6_passages_92 : decode cX6_passages 92 = .ok (.istore 5, 2) := by decide +kernel
theorem dX6_passages_94 : decode cX6_passages 94 = .ok (.iinc 6 1, 3) := by decide +kernel
theorem dX6_passages_97 : decode cX6_passages 97 = .ok (.goto (-35), 3) := by decide +kernel
theorem dX6_passages_100 : decode cX6_passages 100 = .ok (.iload_n 3, 1) := by decide +kernel
theorem dX6_passages_101 : decode cX6_passages 101 = .ok (.iload 5, 2) := by decide +kernel
theorem dX6_passages_103 : decode cX6_passages 103 = .ok (.ifCond .eq 7, 3) := by decide +kernel
theorem dX6_passages_106 : decode cX6_passages 106 = .ok (.iconst 1, 1) := by decide +kernel
theorem dX6_passages_107 : decode cX6_passages 107 = .ok (.goto 4, 3) := by decide +kernel
theorem dX6_passages_110 : decode cX6_passages 110 = .ok (.iconst 0, 1) := by decide +kernel
theorem dX6_passages_111 : decode cX6_passages 111 = .ok (.iadd, 1) := by decide +kernel
theorem dX6_passages_112 : decode cX6_passages 112 = .ok (.istore_n 3, 1) := by decide +kernel
theorem dX6_passages_113 : decode cX6_passages 113 = .ok (.iinc 4 1, 3) := by decide +kernel
theorem dX6_passages_116 : decode cX6_passages 116 = .ok (.goto (-72), 3) := by decide +kernel
theorem dX6_passages_119 : decode cX6_passages 119 = .ok (.iload_n 3, 1) := by decide +kernel
theorem dX6_passages_120 : decode cX6_passages 120 = .ok (.ireturn, 1) := by decide +kernel
theorem dX6_period_0 : decode cX6_period 0 = .ok (.aload_n 0, 1) := by decide +kernel
theorem dX6_period_1 : decode cX6_period 1 = .ok (.iconst 0, 1) := by decide +kernel
theorem dX6_period_2 : decode cX6_period 2 = .ok (.putfield 46, 3) := by decide +kernel
theorem dX6_period_5 : decode cX6_period 5 = .ok (.aload_n 0, 1) := by decide +kernel
theorem dX6_period_6 : decode cX6_period 6 = .ok (.iload_n 1, 1) := by decide +kernel
theorem dX6_period_7 : decode cX6_period 7 = .ok (.invokestatic 82, 3) := by decide +kernel
theorem dX6_period_10 : decode cX6_period 10 = .ok (.iconst 1, 1) := by decide +kernel
theorem dX6_period_11 : decode cX6_period 11 = .ok (.invokevirtual 76, 3) := by decide +kernel
theorem dX6_period_14 : decode cX6_period 14 = .ok (.ifCond .eq 11, 3) := by decide +kernel
theorem dX6_period_17 : decode cX6_period 17 = .ok (.aload_n 0, 1) := by decide +kernel
theorem dX6_period_18 : decode cX6_period 18 = .ok (.iload_n 1, 1) := by decide +kernel
theorem dX6_period_19 : decode cX6_period 19 = .ok (.invokevirtual 86, 3) := by decide +kernel
theorem dX6_period_22 : decode cX6_period 22 = .ok (.ifCond .ne 5, 3) := by decide +kernel
theorem dX6_period_25 : decode cX6_period 25 = .ok (.iconst 0, 1) := by decide +kernel
theorem dX6_period_26 : decode cX6_period 26 = .ok (.ireturn, 1) := by decide +kernel
theorem dX6_period_27 : decode cX6_period 27 = .ok (.iconst 1, 1) := by decide +kernel
theorem dX6_period_28 : decode cX6_period 28 = .ok (.istore_n 2, 1) := by decide +kernel
theorem dX6_period_29 : decode cX6_period 29 = .ok (.aload_n 0, 1) := by decide +kernel
theorem dX6_period_30 : decode cX6_period 30 = .ok (.iload_n 1, 1) := by decide +kernel
theorem dX6_period_31 : decode cX6_period 31 = .ok (.iconst 0, 1) := by decide +kernel
theorem dX6_period_32 : decode cX6_period 32 = .ok (.iload_n 2, 1) := by decide +kernel
theorem dX6_period_33 : decode cX6_period 33 = .ok (.invokevirtual 96, 3) := by decide +kernel
theorem dX6_period_36 : decode cX6_period 36 = .ok (.aload_n 0, 1) := by decide +kernel
theorem dX6_period_37 : decode cX6_period 37 = .ok (.iload_n 1, 1) := by decide +kernel
theorem dX6_period_38 : decode cX6_period 38 = .ok (.invokevirtual 86, 3) := by decide +kernel
theorem dX6_period_41 : decode cX6_period 41 = .ok (.iload_n 2, 1) := by decide +kernel
theorem dX6_period_42 : decode cX6_period 42 = .ok (.isub, 1) := by decide +kernel
theorem dX6_period_43 : decode cX6_period 43 = .ok (.if_icmp .ge 9, 3) := by decide +kernel
theorem dX6_period_46 : decode cX6_period 46 = .ok (.iinc 2 1, 3) := by decide +kernel
theorem dX6_period_49 : decode cX6_period 49 = .ok (.goto (-20), 3) := by decide +kernel
theorem dX6_period_52 : decode cX6_period 52 = .ok (.iload_n 2, 1) := by decide +kernel
theorem dX6_period_53 : decode cX6_period 53 = .ok (.ireturn, 1) := by decide +kernel
theorem dX6_alike_0 : decode cX6_alike 0 = .ok (.aload_n 0, 1) := by decide +kernel
theorem dX6_alike_1 : decode cX6_alike 1 = .ok (.iconst 0, 1) := by decide +kernel
theorem dX6_alike_2 : decode cX6_alike 2 = .ok (.putfield 46, 3) := by decide +kernel
theorem dX6_alike_5 : decode cX6_alike 5 = .ok (.iload_n 1, 1) := by decide +kernel
theorem dX6_alike_6 : decode cX6_alike 6 = .ok (.invokestatic 82, 3) := by decide +kernel
theorem dX6_alike_9 : decode cX6_alike 9 = .ok (.ifCond .eq 52, 3) := by decide +kernel
theorem dX6_alike_12 : decode cX6_alike 12 = .ok (.iload 4, 2) := by decide +kernel
theorem dX6_alike_14 : decode cX6_alike 14 = .ok (.ifCond .lt 47, 3) := by decide +kernel
theorem dX6_alike_17 : decode cX6_alike 17 = .ok (.iload_n 2, 1) := by decide +kernel
theorem dX6_alike_18 : decode cX6_alike 18 = .ok (.ifCond .lt 43, 3) := by decide +kernel
theorem dX6_alike_21 : decode cX6_alike 21 = .ok (.iload_n 3, 1) := by decide +kernel
theorem dX6_alike_22 : decode cX6_alike 22 = .ok (.ifCond .lt 39, 3) := by decide +kernel
theorem dX6_alike_25 : decode cX6_alike 25 = .ok (.iload_n 2, 1) := by decide +kernel
theorem dX6_alike_26 : decode cX6_alike 26 = .ok (.i2l, 1) := by decide +kernel
theorem dX6_alike_27 : decode cX6_alike 27 = .ok (.iload 4, 2) := by decide +kernel
theorem dX6_alike_29 : decode cX6_alike 29 = .ok (.i2l, 1) := by decide +kernel
theorem dX6_alike_30 : decode cX6_alike 30 = .ok (.ladd, 1) := by decide +kernel
theorem dX6_alike_31 : decode cX6_alike 31 = .ok (.aload_n 0, 1) := by decide +kernel
theorem dX6_alike_32 : decode cX6_alike 32 = .ok (.iload_n 1, 1) := by decide +kernel
theorem dX6_alike_33 : decode cX6_alike 33 = .ok (.invokevirtual 86, 3) := by decide +kernel
theorem dX6_alike_36 : decode cX6_alike 36 = .ok (.i2l, 1) := by decide +kernel
theorem dX6_alike_37 : decode cX6_alike 37 = .ok (.lcmp, 1) := by decide +kernel
theorem dX6_alike_38 : decode cX6_alike 38 = .ok (.ifCond .gt 23, 3) := by decide +kernel
theorem dX6_alike_41 : decode cX6_alike 41 = .ok (.iload_n 3, 1) := by decide +kernel
theorem dX6_alike_42 : decode cX6_alike 42 = .ok (.i2l, 1) := by decide +kernel
theorem dX6_alike_43 : decode cX6_alike 43 = .ok (.iload 4, 2) := by decide +kernel
theorem dX6_alike_45 : decode cX6_alike 45 = .ok (.i2l, 1) := by decide +kernel
theorem dX6_alike_46 : decode cX6_alike 46 = .ok (.ladd, 1) := by decide +kernel
theorem dX6_alike_47 : decode cX6_alike 47 = .ok (.aload_n 0, 1) := by decide +kernel
theorem dX6_alike_48 : decode cX6_alike 48 = .ok (.iload_n 1, 1) := by decide +kernel
theorem dX6_alike_49 : decode cX6_alike 49 = .ok (.invokevirtual 86, 3) := by decide +kernel
theorem dX6_alike_52 : decode cX6_alike 52 = .ok (.i2l, 1) := by decide +kernel
theorem dX6_alike_53 : decode cX6_alike 53 = .ok (.lcmp, 1) := by decide +kernel
theorem dX6_alike_54 : decode cX6_alike 54 = .ok (.ifCond .gt 7, 3) := by decide +kernel
theorem dX6_alike_57 : decode cX6_alike 57 = .ok (.iconst 1, 1) := by decide +kernel
theorem dX6_alike_58 : decode cX6_alike 58 = .ok (.goto 4, 3) := by decide +kernel
theorem dX6_alike_61 : decode cX6_alike 61 = .ok (.iconst 0, 1) := by decide +kernel
theorem dX6_alike_62 : decode cX6_alike 62 = .ok (.istore 5, 2) := by decide +kernel
theorem dX6_alike_64 : decode cX6_alike 64 = .ok (.aload_n 0, 1) := by decide +kernel
theorem dX6_alike_65 : decode cX6_alike 65 = .ok (.iload 5, 2) := by decide +kernel
theorem dX6_alike_67 : decode cX6_alike 67 = .ok (.iconst 1, 1) := by decide +kernel
theorem dX6_alike_68 : decode cX6_alike 68 = .ok (.invokevirtual 76, 3) := by decide +kernel
theorem dX6_alike_71 : decode cX6_alike 71 = .ok (.ifCond .eq 21, 3) := by decide +kernel
theorem dX6_alike_74 : decode cX6_alike 74 = .ok (.aload_n 0, 1) := by decide +kernel
theorem dX6_alike_75 : decode cX6_alike 75 = .ok (.iload 4, 2) := by decide +kernel
theorem dX6_alike_77 : decode cX6_alike 77 = .ok (.ifCond .eq 7, 3) := by decide +kernel
theorem dX6_alike_80 : decode cX6_alike 80 = .ok (.iconst 1, 1) := by decide +kernel
theorem dX6_alike_81 : decode cX6_alike 81 = .ok (.goto 4, 3) := by decide +kernel
theorem dX6_alike_84 : decode cX6_alike 84 = .ok (.iconst 0, 1) := by decide +kernel
theorem dX6_alike_85 : decode cX6_alike 85 = .ok (.iconst 2, 1) := by decide +kernel
theorem dX6_alike_86 : decode cX6_alike 86 = .ok (.invokevirtual 76, 3) := by decide +kernel
theorem dX6_alike_89 : decode cX6_alike 89 = .ok (.ifCond .ne 5, 3) := by decide +kernel
theorem dX6_alike_92 : decode cX6_alike 92 = .ok (.iconst 0, 1) := by decide +kernel
theorem dX6_alike_93 : decode cX6_alike 93 = .ok (.ireturn, 1) := by decide +kernel
theorem dX6_alike_94 : decode cX6_alike 94 = .ok (.iconst 0, 1) := by decide +kernel
theorem dX6_alike_95 : decode cX6_alike 95 = .ok (.istore 6, 2) := by decide +kernel
theorem dX6_alike_97 : decode cX6_alike 97 = .ok (.iconst 0, 1) := by decide +kernel
theorem dX6_alike_98 : decode cX6_alike 98 = .ok (.istore 7, 2) := by decide +kernel
theorem dX6_alike_100 : decode cX6_alike 100 = .ok (.iload 7, 2) := by decide +kernel
theorem dX6_alike_102 : decode cX6_alike 102 = .ok (.iload 4, 2) := by decide +kernel
theorem dX6_alike_104 : decode cX6_alike 104 = .ok (.if_icmp .ge 40, 3) := by decide +kernel
theorem dX6_alike_107 : decode cX6_alike 107 = .ok (.iload 6, 2) := by decide +kernel
theorem dX6_alike_109 : decode cX6_alike 109 = .ok (.aload_n 0, 1) := by decide +kernel
theorem dX6_alike_110 : decode cX6_alike 110 = .ok (.iload_n 1, 1) := by decide +kernel
theorem dX6_alike_111 : decode cX6_alike 111 = .ok (.iload_n 2, 1) := by decide +kernel
theorem dX6_alike_112 : decode cX6_alike 112 = .ok (.iload 7, 2) := by decide +kernel
theorem dX6_alike_114 : decode cX6_alike 114 = .ok (.iadd, 1) := by decide +kernel
theorem dX6_alike_115 : decode cX6_alike 115 = .ok (.invokevirtual 90, 3) := by decide +kernel
theorem dX6_alike_118 : decode cX6_alike 118 = .ok (.aload_n 0, 1) := by decide +kernel
theorem dX6_alike_119 : decode cX6_alike 119 = .ok (.iload_n 1, 1) := by decide +kernel
theorem dX6_alike_120 : decode cX6_alike 120 = .ok (.iload_n 3, 1) := by decide +kernel
theorem dX6_alike_121 : decode cX6_alike 121 = .ok (.iload 7, 2) := by decide +kernel
theorem dX6_alike_123 : decode cX6_alike 123 = .ok (.iadd, 1) := by decide +kernel
theorem dX6_alike_124 : decode cX6_alike 124 = .ok (.invokevirtual 90, 3) := by decide +kernel
theorem dX6_alike_127 : decode cX6_alike 127 = .ok (.if_icmp .ne 7, 3) := by decide +kernel
theorem dX6_alike_130 : decode cX6_alike 130 = .ok (.iconst 1, 1) := by decide +kernel
theorem dX6_alike_131 : decode cX6_alike 131 = .ok (.goto 4, 3) := by decide +kernel
theorem dX6_alike_134 : decode cX6_alike 134 = .ok (.iconst 0, 1) := by decide +kernel
theorem dX6_alike_135 : decode cX6_alike 135 = .ok (.iadd, 1) := by decide +kernel
theorem dX6_alike_136 : decode cX6_alike 136 = .ok (.istore 6, 2) := by decide +kernel
theorem dX6_alike_138 : decode cX6_alike 138 = .ok (.iinc 7 1, 3) := by decide +kernel
theorem dX6_alike_141 : decode cX6_alike 141 = .ok (.goto (-41), 3) := by decide +kernel
theorem dX6_alike_144 : decode cX6_alike 144 = .ok (.bipush 100, 2) := by decide +kernel
theorem dX6_alike_146 : decode cX6_alike 146 = .ok (.iload 6, 2) := by decide +kernel
theorem dX6_alike_148 : decode cX6_alike 148 = .ok (.imul, 1) := by decide +kernel
theorem dX6_alike_149 : decode cX6_alike 149 = .ok (.iload 4, 2) := by decide +kernel
theorem dX6_alike_151 : decode cX6_alike 151 = .ok (.idiv, 1) := by decide +kernel
theorem dX6_alike_152 : decode cX6_alike 152 = .ok (.ireturn, 1) := by decide +kernel
theorem dX6_motive_0 : decode cX6_motive 0 = .ok (.aload_n 0, 1) := by decide +kernel
theorem dX6_motive_1 : decode cX6_motive 1 = .ok (.iconst 0, 1) := by decide +kernel
theorem dX6_motive_2 : decode cX6_motive 2 = .ok (.putfield 46, 3) := by decide +kernel
theorem dX6_motive_5 : decode cX6_motive 5 = .ok (.aload_n 0, 1) := by decide +kernel
theorem dX6_motive_6 : decode cX6_motive 6 = .ok (.iload_n 2, 1) := by decide +kernel
theorem dX6_motive_7 : decode cX6_motive 7 = .ok (.i2l, 1) := by decide +kernel
theorem dX6_motive_8 : decode cX6_motive 8 = .ok (.lconst 1, 1) := by decide +kernel
theorem dX6_motive_9 : decode cX6_motive 9 = .ok (.ldc2_w 102, 3) := by decide +kernel
theorem dX6_motive_12 : decode cX6_motive 12 = .ok (.invokestatic 70, 3) := by decide +kernel
theorem dX6_motive_15 : decode cX6_motive 15 = .ok (.ifCond .eq 25, 3) := by decide +kernel
theorem dX6_motive_18 : decode cX6_motive 18 = .ok (.iload_n 1, 1) := by decide +kernel
theorem dX6_motive_19 : decode cX6_motive 19 = .ok (.ifCond .lt 21, 3) := by decide +kernel
theorem dX6_motive_22 : decode cX6_motive 22 = .ok (.iload_n 1, 1) := by decide +kernel
theorem dX6_motive_23 : decode cX6_motive 23 = .ok (.i2l, 1) := by decide +kernel
theorem dX6_motive_24 : decode cX6_motive 24 = .ok (.iload_n 2, 1) := by decide +kernel
theorem dX6_motive_25 : decode cX6_motive 25 = .ok (.i2l, 1) := by decide +kernel
theorem dX6_motive_26 : decode cX6_motive 26 = .ok (.ladd, 1) := by decide +kernel
theorem dX6_motive_27 : decode cX6_motive 27 = .ok (.aload_n 0, 1) := by decide +kernel
theorem dX6_motive_28 : decode cX6_motive 28 = .ok (.getfield 50, 3) := by decide +kernel
theorem dX6_motive_31 : decode cX6_motive 31 = .ok (.i2l, 1) := by decide +kernel
theorem dX6_motive_32 : decode cX6_motive 32 = .ok (.lcmp, 1) := by decide +kernel
theorem dX6_motive_33 : decode cX6_motive 33 = .ok (.ifCond .gt 7, 3) := by decide +kernel
theorem dX6_motive_36 : decode cX6_motive 36 = .ok (.iconst 1, 1) := by decide +kernel
theorem dX6_motive_37 : decode cX6_motive 37 = .ok (.goto 4, 3) := by decide +kernel
theorem dX6_motive_40 : decode cX6_motive 40 = .ok (.iconst 0, 1) := by decide +kernel
theorem dX6_motive_41 : decode cX6_motive 41 = .ok (.iconst 1, 1) := by decide +kernel
theorem dX6_motive_42 : decode cX6_motive 42 = .ok (.invokevirtual 76, 3) := by decide +kernel
theorem dX6_motive_45 : decode cX6_motive 45 = .ok (.ifCond .ne 5, 3) := by decide +kernel
theorem dX6_motive_48 : decode cX6_motive 48 = .ok (.iconst 0, 1) := by decide +kernel
theorem dX6_motive_49 : decode cX6_motive 49 = .ok (.ireturn, 1) := by decide +kernel
theorem dX6_motive_50 : decode cX6_motive 50 = .ok (.aload_n 0, 1) := by decide +kernel
theorem dX6_motive_51 : decode cX6_motive 51 = .ok (.iload_n 2, 1) := by decide +kernel
theorem dX6_motive_52 : decode cX6_motive 52 = .ok (.putfield 56, 3) := by decide +kernel
theorem dX6_motive_55 : decode cX6_motive 55 = .ok (.iconst 0, 1) := by decide +kernel
theorem dX6_motive_56 : decode cX6_motive 56 = .ok (.istore_n 3, 1) := by decide +kernel
theorem dX6_motive_57 : decode cX6_motive 57 = .ok (.iload_n 3, 1) := by decide +kernel
theorem dX6_motive_58 : decode cX6_motive 58 = .ok (.iload_n 2, 1) := by decide +kernel
theorem dX6_motive_59 : decode cX6_motive 59 = .ok (.if_icmp .ge 37, 3) := by decide +kernel
theorem dX6_motive_62 : decode cX6_motive 62 = .ok (.aload_n 0, 1) := by decide +kernel
theorem dX6_motive_63 : decode cX6_motive 63 = .ok (.getfield 19, 3) := by decide +kernel
theorem dX6_motive_66 : decode cX6_motive 66 = .ok (.iload_n 3, 1) := by decide +kernel
theorem dX6_motive_67 : decode cX6_motive 67 = .ok (.aload_n 0, 1) := by decide +kernel
theorem dX6_motive_68 : decode cX6_motive 68 = .ok (.getfield 7, 3) := by decide +kernel
theorem dX6_motive_71 : decode cX6_motive 71 = .ok (.iload_n 1, 1) := by decide +kernel
theorem dX6_motive_72 : decode cX6_motive 72 = .ok (.iload_n 3, 1) := by decide +kernel
theorem dX6_motive_73 : decode cX6_motive 73 = .ok (.iadd, 1) := by decide +kernel
theorem dX6_motive_74 : decode cX6_motive 74 = .ok (.iaload, 1) := by decide +kernel
theorem dX6_motive_75 : decode cX6_motive 75 = .ok (.iastore, 1) := by decide +kernel
theorem dX6_motive_76 : decode cX6_motive 76 = .ok (.aload_n 0, 1) := by decide +kernel
theorem dX6_motive_77 : decode cX6_motive 77 = .ok (.getfield 22, 3) := by decide +kernel
theorem dX6_motive_80 : decode cX6_motive 80 = .ok (.iload_n 3, 1) := by decide +kernel
theorem dX6_motive_81 : decode cX6_motive 81 = .ok (.aload_n 0, 1) := by decide +kernel
theorem dX6_motive_82 : decode cX6_motive 82 = .ok (.getfield 13, 3) := by decide +kernel
theorem dX6_motive_85 : decode cX6_motive 85 = .ok (.iload_n 1, 1) := by decide +kernel
theorem dX6_motive_86 : decode cX6_motive 86 = .ok (.iload_n 3, 1) := by decide +kernel
theorem dX6_motive_87 : decode cX6_motive 87 = .ok (.iadd, 1) := by decide +kernel
theorem dX6_motive_88 : decode cX6_motive 88 = .ok (.iaload, 1) := by decide +kernel
theorem dX6_motive_89 : decode cX6_motive 89 = .ok (.iastore, 1) := by decide +kernel
theorem dX6_motive_90 : decode cX6_motive 90 = .ok (.iinc 3 1, 3) := by decide +kernel
theorem dX6_motive_93 : decode cX6_motive 93 = .ok (.goto (-36), 3) := by decide +kernel
theorem dX6_motive_96 : decode cX6_motive 96 = .ok (.aload_n 0, 1) := by decide +kernel
theorem dX6_motive_97 : decode cX6_motive 97 = .ok (.getfield 19, 3) := by decide +kernel
theorem dX6_motive_100 : decode cX6_motive 100 = .ok (.iconst 0, 1) := by decide +kernel
theorem dX6_motive_101 : decode cX6_motive 101 = .ok (.iaload, 1) := by decide +kernel
theorem dX6_motive_102 : decode cX6_motive 102 = .ok (.ireturn, 1) := by decide +kernel
theorem dX6_source_0 : decode cX6_source 0 = .ok (.iload_n 1, 1) := by decide +kernel
theorem dX6_source_1 : decode cX6_source 1 = .ok (.iconst 2, 1) := by decide +kernel
theorem dX6_source_2 : decode cX6_source 2 = .ok (.if_icmp .ge 7, 3) := by decide +kernel
theorem dX6_source_5 : decode cX6_source 5 = .ok (.iload_n 2, 1) := by decide +kernel
theorem dX6_source_6 : decode cX6_source 6 = .ok (.goto 11, 3) := by decide +kernel
theorem dX6_source_9 : decode cX6_source 9 = .ok (.aload_n 0, 1) := by decide +kernel
theorem dX6_source_10 : decode cX6_source 10 = .ok (.getfield 56, 3) := by decide +kernel
theorem dX6_source_13 : decode cX6_source 13 = .ok (.iconst 1, 1) := by decide +kernel
theorem dX6_source_14 : decode cX6_source 14 = .ok (.isub, 1) := by decide +kernel
theorem dX6_source_15 : decode cX6_source 15 = .ok (.iload_n 2, 1) := by decide +kernel
theorem dX6_source_16 : decode cX6_source 16 = .ok (.isub, 1) := by decide +kernel
theorem dX6_source_17 : decode cX6_source 17 = .ok (.ireturn, 1) := by decide +kernel
theorem dX6_formPitch_0 : decode cX6_formPitch 0 = .ok (.aload_n 0, 1) := by decide +kernel
theorem dX6_formPitch_1 : decode cX6_formPitch 1 = .ok (.getfield 19, 3) := by decide +kernel
theorem dX6_formPitch_4 : decode cX6_formPitch 4 = .ok (.aload_n 0, 1) := by decide +kernel
theorem dX6_formPitch_5 : decode cX6_formPitch 5 = .ok (.iload_n 1, 1) := by decide +kernel
theorem dX6_formPitch_6 : decode cX6_formPitch 6 = .ok (.iload_n 2, 1) := by decide +kernel
theorem dX6_formPitch_7 : decode cX6_formPitch 7 = .ok (.invokevirtual 104, 3) := by decide +kernel
theorem dX6_formPitch_10 : decode cX6_formPitch 10 = .ok (.iaload, 1) := by decide +kernel
theorem dX6_formPitch_11 : decode cX6_formPitch 11 = .ok (.istore_n 3, 1) := by decide +kernel
theorem dX6_formPitch_12 : decode cX6_formPitch 12 = .ok (.iload_n 1, 1) := by decide +kernel
theorem dX6_formPitch_13 : decode cX6_formPitch 13 = .ok (.iconst 1, 1) := by decide +kernel
theorem dX6_formPitch_14 : decode cX6_formPitch 14 = .ok (.if_icmp .eq 8, 3) := by decide +kernel
theorem dX6_formPitch_17 : decode cX6_formPitch 17 = .ok (.iload_n 1, 1) := by decide +kernel
theorem dX6_formPitch_18 : decode cX6_formPitch 18 = .ok (.iconst 3, 1) := by decide +kernel
theorem dX6_formPitch_19 : decode cX6_formPitch 19 = .ok (.if_icmp .ne 21, 3) := by decide +kernel
theorem dX6_formPitch_22 : decode cX6_formPitch 22 = .ok (.iconst 2, 1) := by decide +kernel
theorem dX6_formPitch_23 : decode cX6_formPitch 23 = .ok (.aload_n 0, 1) := by decide +kernel
theorem dX6_formPitch_24 : decode cX6_formPitch 24 = .ok (.getfield 19, 3) := by decide +kernel
theorem dX6_formPitch_27 : decode cX6_formPitch 27 = .ok (.aload_n 0, 1) := by decide +kernel
theorem dX6_formPitch_28 : decode cX6_formPitch 28 = .ok (.iload_n 1, 1) := by decide +kernel
theorem dX6_formPitch_29 : decode cX6_formPitch 29 = .ok (.iconst 0, 1) := by decide +kernel
theorem dX6_formPitch_30 : decode cX6_formPitch 30 = .ok (.invokevirtual 104, 3) := by decide +kernel
theorem dX6_formPitch_33 : decode cX6_formPitch 33 = .ok (.iaload, 1) := by decide +kernel
theorem dX6_formPitch_34 : decode cX6_formPitch 34 = .ok (.imul, 1) := by decide +kernel
theorem dX6_formPitch_35 : decode cX6_formPitch 35 = .ok (.iload_n 3, 1) := by decide +kernel
theorem dX6_formPitch_36 : decode cX6_formPitch 36 = .ok (.isub, 1) := by decide +kernel
theorem dX6_formPitch_37 : decode cX6_formPitch 37 = .ok (.goto 4, 3) := by decide +kernel
theorem dX6_formPitch_40 : decode cX6_formPitch 40 = .ok (.iload_n 3, 1) := by decide +kernel
theorem dX6_formPitch_41 : decode cX6_formPitch 41 = .ok (.ireturn, 1) := by decide +kernel
theorem dX6_form_0 : decode cX6_form 0 = .ok (.aload_n 0, 1) := by decide +kernel
theorem dX6_form_1 : decode cX6_form 1 = .ok (.iconst 0, 1) := by decide +kernel
theorem dX6_form_2 : decode cX6_form 2 = .ok (.putfield 46, 3) := by decide +kernel
theorem dX6_form_5 : decode cX6_form 5 = .ok (.aload_n 0, 1) := by decide +kernel
theorem dX6_form_6 : decode cX6_form 6 = .ok (.iload_n 1, 1) := by decide +kernel
theorem dX6_form_7 : decode cX6_form 7 = .ok (.i2l, 1) := by decide +kernel
theorem dX6_form_8 : decode cX6_form 8 = .ok (.lconst 0, 1) := by decide +kernel
theorem dX6_form_9 : decode cX6_form 9 = .ok (.ldc2_w 107, 3) := by decide +kernel
theorem dX6_form_12 : decode cX6_form 12 = .ok (.invokestatic 70, 3) := by decide +kernel
theorem dX6_form_15 : decode cX6_form 15 = .ok (.ifCond .eq 33, 3) := by decide +kernel
theorem dX6_form_18 : decode cX6_form 18 = .ok (.iload_n 2, 1) := by decide +kernel
theorem dX6_form_19 : decode cX6_form 19 = .ok (.i2l, 1) := by decide +kernel
theorem dX6_form_20 : decode cX6_form 20 = .ok (.lconst 0, 1) := by decide +kernel
theorem dX6_form_21 : decode cX6_form 21 = .ok (.aload_n 0, 1) := by decide +kernel
theorem dX6_form_22 : decode cX6_form 22 = .ok (.getfield 56, 3) := by decide +kernel
theorem dX6_form_25 : decode cX6_form 25 = .ok (.iconst 1, 1) := by decide +kernel
theorem dX6_form_26 : decode cX6_form 26 = .ok (.isub, 1) := by decide +kernel
theorem dX6_form_27 : decode cX6_form 27 = .ok (.i2l, 1) := by decide +kernel
theorem dX6_form_28 : decode cX6_form 28 = .ok (.invokestatic 70, 3) := by decide +kernel
theorem dX6_form_31 : decode cX6_form 31 = .ok (.ifCond .eq 17, 3) := by decide +kernel
theorem dX6_form_34 : decode cX6_form 34 = .ok (.iload_n 3, 1) := by decide +kernel
theorem dX6_form_35 : decode cX6_form 35 = .ok (.i2l, 1) := by decide +kernel
theorem dX6_form_36 : decode cX6_form 36 = .ok (.lconst 0, 1) := by decide +kernel
theorem dX6_form_37 : decode cX6_form 37 = .ok (.lconst 1, 1) := by decide +kernel
theorem dX6_form_38 : decode cX6_form 38 = .ok (.invokestatic 70, 3) := by decide +kernel
theorem dX6_form_41 : decode cX6_form 41 = .ok (.ifCond .eq 7, 3) := by decide +kernel
theorem dX6_form_44 : decode cX6_form 44 = .ok (.iconst 1, 1) := by decide +kernel
theorem dX6_form_45 : decode cX6_form 45 = .ok (.goto 4, 3) := by decide +kernel
theorem dX6_form_48 : decode cX6_form 48 = .ok (.iconst 0, 1) := by decide +kernel
theorem dX6_form_49 : decode cX6_form 49 = .ok (.iconst 1, 1) := by decide +kernel
theorem dX6_form_50 : decode cX6_form 50 = .ok (.invokevirtual 76, 3) := by decide +kernel
theorem dX6_form_53 : decode cX6_form 53 = .ok (.ifCond .ne 5, 3) := by decide +kernel
theorem dX6_form_56 : decode cX6_form 56 = .ok (.iconst 0, 1) := by decide +kernel
theorem dX6_form_57 : decode cX6_form 57 = .ok (.ireturn, 1) := by decide +kernel
theorem dX6_form_58 : decode cX6_form 58 = .ok (.iload_n 3, 1) := by decide +kernel
theorem dX6_form_59 : decode cX6_form 59 = .ok (.ifCond .ne 12, 3) := by decide +kernel
theorem dX6_form_62 : decode cX6_form 62 = .ok (.aload_n 0, 1) := by decide +kernel
theorem dX6_form_63 : decode cX6_form 63 = .ok (.iload_n 1, 1) := by decide +kernel
theorem dX6_form_64 : decode cX6_form 64 = .ok (.iload_n 2, 1) := by decide +kernel
theorem dX6_form_65 : decode cX6_form 65 = .ok (.invokevirtual 109, 3) := by decide +kernel
theorem dX6_form_68 : decode cX6_form 68 = .ok (.goto 14, 3) := by decide +kernel
theorem dX6_form_71 : decode cX6_form 71 = .ok (.aload_n 0, 1) := by decide +kernel
theorem dX6_form_72 : decode cX6_form 72 = .ok (.getfield 22, 3) := by decide +kernel
theorem dX6_form_75 : decode cX6_form 75 = .ok (.aload_n 0, 1) := by decide +kernel
theorem dX6_form_76 : decode cX6_form 76 = .ok (.iload_n 1, 1) := by decide +kernel
theorem dX6_form_77 : decode cX6_form 77 = .ok (.iload_n 2, 1) := by decide +kernel
theorem dX6_form_78 : decode cX6_form 78 = .ok (.invokevirtual 104, 3) := by decide +kernel
theorem dX6_form_81 : decode cX6_form 81 = .ok (.iaload, 1) := by decide +kernel
theorem dX6_form_82 : decode cX6_form 82 = .ok (.ireturn, 1) := by decide +kernel
theorem dX6_answerPitch_0 : decode cX6_answerPitch 0 = .ok (.aload_n 0, 1) := by decide +kernel
theorem dX6_answerPitch_1 : decode cX6_answerPitch 1 = .ok (.getfield 19, 3) := by decide +kernel
theorem dX6_answerPitch_4 : decode cX6_answerPitch 4 = .ok (.iload_n 3, 1) := by decide +kernel
theorem dX6_answerPitch_5 : decode cX6_answerPitch 5 = .ok (.iaload, 1) := by decide +kernel
theorem dX6_answerPitch_6 : decode cX6_answerPitch 6 = .ok (.istore 4, 2) := by decide +kernel
theorem dX6_answerPitch_8 : decode cX6_answerPitch 8 = .ok (.iload 4, 2) := by decide +kernel
theorem dX6_answerPitch_10 : decode cX6_answerPitch 10 = .ok (.bipush 120, 2) := by decide +kernel
theorem dX6_answerPitch_12 : decode cX6_answerPitch 12 = .ok (.iadd, 1) := by decide +kernel
theorem dX6_answerPitch_13 : decode cX6_answerPitch 13 = .ok (.iload_n 1, 1) := by decide +kernel
theorem dX6_answerPitch_14 : decode cX6_answerPitch 14 = .ok (.isub, 1) := by decide +kernel
theorem dX6_answerPitch_15 : decode cX6_answerPitch 15 = .ok (.bipush 7, 2) := by decide +kernel
theorem dX6_answerPitch_17 : decode cX6_answerPitch 17 = .ok (.isub, 1) := by decide +kernel
theorem dX6_answerPitch_18 : decode cX6_answerPitch 18 = .ok (.bipush 12, 2) := by decide +kernel
theorem dX6_answerPitch_20 : decode cX6_answerPitch 20 = .ok (.irem, 1) := by decide +kernel
theorem dX6_answerPitch_21 : decode cX6_answerPitch 21 = .ok (.ifCond .ne 7, 3) := by decide +kernel
theorem dX6_answerPitch_24 : decode cX6_answerPitch 24 = .ok (.iconst 1, 1) := by decide +kernel
theorem dX6_answerPitch_25 : decode cX6_answerPitch 25 = .ok (.goto 4, 3) := by decide +kernel
theorem dX6_answerPitch_28 : decode cX6_answerPitch 28 = .ok (.iconst 0, 1) := by decide +kernel
theorem dX6_answerPitch_29 : decode cX6_answerPitch 29 = .ok (.istore 5, 2) := by decide +kernel
theorem dX6_answerPitch_31 : decode cX6_answerPitch 31 = .ok (.iload 4, 2) := by decide +kernel
theorem dX6_answerPitch_33 : decode cX6_answerPitch 33 = .ok (.iload_n 3, 1) := by decide +kernel
theorem dX6_answerPitch_34 : decode cX6_answerPitch 34 = .ok (.iload_n 2, 1) := by decide +kernel
theorem dX6_answerPitch_35 : decode cX6_answerPitch 35 = .ok (.if_icmp .ge 12, 3) := by decide +kernel
theorem dX6_answerPitch_38 : decode cX6_answerPitch 38 = .ok (.iload 5, 2) := by decide +kernel
theorem dX6_answerPitch_40 : decode cX6_answerPitch 40 = .ok (.ifCond .eq 7, 3) := by decide +kernel
theorem dX6_answerPitch_43 : decode cX6_answerPitch 43 = .ok (.iconst 5, 1) := by decide +kernel
theorem dX6_answerPitch_44 : decode cX6_answerPitch 44 = .ok (.goto 5, 3) := by decide +kernel
theorem dX6_answerPitch_47 : decode cX6_answerPitch 47 = .ok (.bipush 7, 2) := by decide +kernel
theorem dX6_answerPitch_49 : decode cX6_answerPitch 49 = .ok (.iadd, 1) := by decide +kernel
theorem dX6_answerPitch_50 : decode cX6_answerPitch 50 = .ok (.ireturn, 1) := by decide +kernel
theorem dX6_goes_0 : decode cX6_goes 0 = .ok (.iload_n 1, 1) := by decide +kernel
theorem dX6_goes_1 : decode cX6_goes 1 = .ok (.aload_n 0, 1) := by decide +kernel
theorem dX6_goes_2 : decode cX6_goes 2 = .ok (.getfield 56, 3) := by decide +kernel
theorem dX6_goes_5 : decode cX6_goes 5 = .ok (.iadd, 1) := by decide +kernel
theorem dX6_goes_6 : decode cX6_goes 6 = .ok (.aload_n 0, 1) := by decide +kernel
theorem dX6_goes_7 : decode cX6_goes 7 = .ok (.getfield 50, 3) := by decide +kernel
theorem dX6_goes_10 : decode cX6_goes 10 = .ok (.if_icmp .gt 7, 3) := by decide +kernel
theorem dX6_goes_13 : decode cX6_goes 13 = .ok (.iconst 1, 1) := by decide +kernel
theorem dX6_goes_14 : decode cX6_goes 14 = .ok (.goto 4, 3) := by decide +kernel
theorem dX6_goes_17 : decode cX6_goes 17 = .ok (.iconst 0, 1) := by decide +kernel
theorem dX6_goes_18 : decode cX6_goes 18 = .ok (.istore_n 2, 1) := by decide +kernel
theorem dX6_goes_19 : decode cX6_goes 19 = .ok (.iconst 1, 1) := by decide +kernel
theorem dX6_goes_20 : decode cX6_goes 20 = .ok (.istore_n 3, 1) := by decide +kernel
theorem dX6_goes_21 : decode cX6_goes 21 = .ok (.iload_n 3, 1) := by decide +kernel
theorem dX6_goes_22 : decode cX6_goes 22 = .ok (.aload_n 0, 1) := by decide +kernel
theorem dX6_goes_23 : decode cX6_goes 23 = .ok (.getfield 56, 3) := by decide +kernel
theorem dX6_goes_26 : decode cX6_goes 26 = .ok (.if_icmp .ge 56, 3) := by decide +kernel
theorem dX6_goes_29 : decode cX6_goes 29 = .ok (.iload_n 2, 1) := by decide +kernel
theorem dX6_goes_30 : decode cX6_goes 30 = .ok (.ifCond .eq 52, 3) := by decide +kernel
theorem dX6_goes_33 : decode cX6_goes 33 = .ok (.aload_n 0, 1) := by decide +kernel
theorem dX6_goes_34 : decode cX6_goes 34 = .ok (.getfield 7, 3) := by decide +kernel
theorem dX6_goes_37 : decode cX6_goes 37 = .ok (.iload_n 1, 1) := by decide +kernel
theorem dX6_goes_38 : decode cX6_goes 38 = .ok (.iload_n 3, 1) := by decide +kernel
theorem dX6_goes_39 : decode cX6_goes 39 = .ok (.iadd, 1) := by decide +kernel
theorem dX6_goes_40 : decode cX6_goes 40 = .ok (.iaload, 1) := by decide +kernel
theorem dX6_goes_41 : decode cX6_goes 41 = .ok (.aload_n 0, 1) := by decide +kernel
theorem dX6_goes_42 : decode cX6_goes 42 = .ok (.getfield 7, 3) := by decide +kernel
theorem dX6_goes_45 : decode cX6_goes 45 = .ok (.iload_n 1, 1) := by decide +kernel
theorem dX6_goes_46 : decode cX6_goes 46 = .ok (.iload_n 3, 1) := by decide +kernel
theorem dX6_goes_47 : decode cX6_goes 47 = .ok (.iadd, 1) := by decide +kernel
theorem dX6_goes_48 : decode cX6_goes 48 = .ok (.iconst 1, 1) := by decide +kernel
theorem dX6_goes_49 : decode cX6_goes 49 = .ok (.isub, 1) := by decide +kernel
theorem dX6_goes_50 : decode cX6_goes 50 = .ok (.iaload, 1) := by decide +kernel
theorem dX6_goes_51 : decode cX6_goes 51 = .ok (.isub, 1) := by decide +kernel
theorem dX6_goes_52 : decode cX6_goes 52 = .ok (.aload_n 0, 1) := by decide +kernel
theorem dX6_goes_53 : decode cX6_goes 53 = .ok (.getfield 31, 3) := by decide +kernel
theorem dX6_goes_56 : decode cX6_goes 56 = .ok (.iload_n 3, 1) := by decide +kernel
theorem dX6_goes_57 : decode cX6_goes 57 = .ok (.iaload, 1) := by decide +kernel
theorem dX6_goes_58 : decode cX6_goes 58 = .ok (.aload_n 0, 1) := by decide +kernel
theorem dX6_goes_59 : decode cX6_goes 59 = .ok (.getfield 31, 3) := by decide +kernel
theorem dX6_goes_62 : decode cX6_goes 62 = .ok (.iload_n 3, 1) := by decide +kernel
theorem dX6_goes_63 : decode cX6_goes 63 = .ok (.iconst 1, 1) := by decide +kernel
theorem dX6_goes_64 : decode cX6_goes 64 = .ok (.isub, 1) := by decide +kernel
theorem dX6_goes_65 : decode cX6_goes 65 = .ok (.iaload, 1) := by decide +kernel
theorem dX6_goes_66 : decode cX6_goes 66 = .ok (.isub, 1) := by decide +kernel
theorem dX6_goes_67 : decode cX6_goes 67 = .ok (.if_icmp .ne 7, 3) := by decide +kernel
theorem dX6_goes_70 : decode cX6_goes 70 = .ok (.iconst 1, 1) := by decide +kernel
theorem dX6_goes_71 : decode cX6_goes 71 = .ok (.goto 4, 3) := by decide +kernel
theorem dX6_goes_74 : decode cX6_goes 74 = .ok (.iconst 0, 1) := by decide +kernel
theorem dX6_goes_75 : decode cX6_goes 75 = .ok (.istore_n 2, 1) := by decide +kernel
theorem dX6_goes_76 : decode cX6_goes 76 = .ok (.iinc 3 1, 3) := by decide +kernel
theorem dX6_goes_79 : decode cX6_goes 79 = .ok (.goto (-58), 3) := by decide +kernel
theorem dX6_goes_82 : decode cX6_goes 82 = .ok (.iload_n 2, 1) := by decide +kernel
theorem dX6_goes_83 : decode cX6_goes 83 = .ok (.ireturn, 1) := by decide +kernel
theorem dX6_find_0 : decode cX6_find 0 = .ok (.aload_n 0, 1) := by decide +kernel
theorem dX6_find_1 : decode cX6_find 1 = .ok (.iconst 0, 1) := by decide +kernel
theorem dX6_find_2 : decode cX6_find 2 = .ok (.putfield 46, 3) := by decide +kernel
theorem dX6_find_5 : decode cX6_find 5 = .ok (.iload_n 1, 1) := by decide +kernel
theorem dX6_find_6 : decode cX6_find 6 = .ok (.i2l, 1) := by decide +kernel
theorem dX6_find_7 : decode cX6_find 7 = .ok (.lconst 0, 1) := by decide +kernel
theorem dX6_find_8 : decode cX6_find 8 = .ok (.ldc2_w 107, 3) := by decide +kernel
theorem dX6_find_11 : decode cX6_find 11 = .ok (.invokestatic 70, 3) := by decide +kernel
theorem dX6_find_14 : decode cX6_find 14 = .ok (.ifCond .eq 39, 3) := by decide +kernel
theorem dX6_find_17 : decode cX6_find 17 = .ok (.iload_n 2, 1) := by decide +kernel
theorem dX6_find_18 : decode cX6_find 18 = .ok (.ifCond .ne 7, 3) := by decide +kernel
theorem dX6_find_21 : decode cX6_find 21 = .ok (.iload_n 3, 1) := by decide +kernel
theorem dX6_find_22 : decode cX6_find 22 = .ok (.ifCond .eq 27, 3) := by decide +kernel
theorem dX6_find_25 : decode cX6_find 25 = .ok (.iload_n 2, 1) := by decide +kernel
theorem dX6_find_26 : decode cX6_find 26 = .ok (.i2l, 1) := by decide +kernel
theorem dX6_find_27 : decode cX6_find 27 = .ok (.lconst 1, 1) := by decide +kernel
theorem dX6_find_28 : decode cX6_find 28 = .ok (.ldc2_w 112, 3) := by decide +kernel
theorem dX6_find_31 : decode cX6_find 31 = .ok (.invokestatic 70, 3) := by decide +kernel
theorem dX6_find_34 : decode cX6_find 34 = .ok (.ifCond .eq 19, 3) := by decide +kernel
theorem dX6_find_37 : decode cX6_find 37 = .ok (.iload_n 3, 1) := by decide +kernel
theorem dX6_find_38 : decode cX6_find 38 = .ok (.i2l, 1) := by decide +kernel
theorem dX6_find_39 : decode cX6_find 39 = .ok (.lconst 1, 1) := by decide +kernel
theorem dX6_find_40 : decode cX6_find 40 = .ok (.ldc2_w 112, 3) := by decide +kernel
theorem dX6_find_43 : decode cX6_find 43 = .ok (.invokestatic 70, 3) := by decide +kernel
theorem dX6_find_46 : decode cX6_find 46 = .ok (.ifCond .eq 7, 3) := by decide +kernel
theorem dX6_find_49 : decode cX6_find 49 = .ok (.iconst 1, 1) := by decide +kernel
theorem dX6_find_50 : decode cX6_find 50 = .ok (.goto 4, 3) := by decide +kernel
theorem dX6_find_53 : decode cX6_find 53 = .ok (.iconst 0, 1) := by decide +kernel
theorem dX6_find_54 : decode cX6_find 54 = .ok (.istore 4, 2) := by decide +kernel
theorem dX6_find_56 : decode cX6_find 56 = .ok (.aload_n 0, 1) := by decide +kernel
theorem dX6_find_57 : decode cX6_find 57 = .ok (.iload 4, 2) := by decide +kernel
theorem dX6_find_59 : decode cX6_find 59 = .ok (.iconst 1, 1) := by decide +kernel
theorem dX6_find_60 : decode cX6_find 60 = .ok (.invokevirtual 76, 3) := by decide +kernel
theorem dX6_find_63 : decode cX6_find 63 = .ok (.ifCond .eq 23, 3) := by decide +kernel
theorem dX6_find_66 : decode cX6_find 66 = .ok (.aload_n 0, 1) := by decide +kernel
theorem dX6_find_67 : decode cX6_find 67 = .ok (.aload_n 0, 1) := by decide +kernel
theorem dX6_find_68 : decode cX6_find 68 = .ok (.getfield 56, 3) := by decide +kernel
theorem dX6_find_71 : decode cX6_find 71 = .ok (.ifCond .le 7, 3) := by decide +kernel
theorem dX6_find_74 : decode cX6_find 74 = .ok (.iconst 1, 1) := by decide +kernel
theorem dX6_find_75 : decode cX6_find 75 = .ok (.goto 4, 3) := by decide +kernel
theorem dX6_find_78 : decode cX6_find 78 = .ok (.iconst 0, 1) := by decide +kernel
theorem dX6_find_79 : decode cX6_find 79 = .ok (.iconst 2, 1) := by decide +kernel
theorem dX6_find_80 : decode cX6_find 80 = .ok (.invokevirtual 76, 3) := by decide +kernel
theorem dX6_find_83 : decode cX6_find 83 = .ok (.ifCond .ne 5, 3) := by decide +kernel
theorem dX6_find_86 : decode cX6_find 86 = .ok (.iconst 0, 1) := by decide +kernel
theorem dX6_find_87 : decode cX6_find 87 = .ok (.ireturn, 1) := by decide +kernel
theorem dX6_find_88 : decode cX6_find 88 = .ok (.iconst 0, 1) := by decide +kernel
theorem dX6_find_89 : decode cX6_find 89 = .ok (.istore 5, 2) := by decide +kernel
theorem dX6_find_91 : decode cX6_find 91 = .ok (.iload 5, 2) := by decide +kernel
theorem dX6_find_93 : decode cX6_find 93 = .ok (.aload_n 0, 1) := by decide +kernel
theorem dX6_find_94 : decode cX6_find 94 = .ok (.getfield 56, 3) := by decide +kernel
theorem dX6_find_97 : decode cX6_find 97 = .ok (.if_icmp .ge 23, 3) := by decide +kernel
theorem dX6_find_100 : decode cX6_find 100 = .ok (.aload_n 0, 1) := by decide +kernel
theorem dX6_find_101 : decode cX6_find 101 = .ok (.getfield 31, 3) := by decide +kernel
theorem dX6_find_104 : decode cX6_find 104 = .ok (.iload 5, 2) := by decide +kernel
theorem dX6_find_106 : decode cX6_find 106 = .ok (.aload_n 0, 1) := by decide +kernel
theorem dX6_find_107 : decode cX6_find 107 = .ok (.iload_n 1, 1) := by decide +kernel
theorem dX6_find_108 : decode cX6_find 108 = .ok (.iload 5, 2) := by decide +kernel
theorem dX6_find_110 : decode cX6_find 110 = .ok (.invokevirtual 109, 3) := by decide +kernel
theorem dX6_find_113 : decode cX6_find 113 = .ok (.iastore, 1) := by decide +kernel
theorem dX6_find_114 : decode cX6_find 114 = .ok (.iinc 5 1, 3) := by decide +kernel
theorem dX6_find_117 : decode cX6_find 117 = .ok (.goto (-26), 3) := by decide +kernel
theorem dX6_find_120 : decode cX6_find 120 = .ok (.aload_n 0, 1) := by decide +kernel
theorem dX6_find_121 : decode cX6_find 121 = .ok (.iconst 0, 1) := by decide +kernel
theorem dX6_find_122 : decode cX6_find 122 = .ok (.putfield 59, 3) := by decide +kernel
theorem dX6_find_125 : decode cX6_find 125 = .ok (.iconst 0, 1) := by decide +kernel
theorem dX6_find_126 : decode cX6_find 126 = .ok (.istore 5, 2) := by decide +kernel
theorem dX6_find_128 : decode cX6_find 128 = .ok (.iload 5, 2) := by decide +kernel
theorem dX6_find_130 : decode cX6_find 130 = .ok (.aload_n 0, 1) := by decide +kernel
theorem dX6_find_131 : decode cX6_find 131 = .ok (.getfield 50, 3) := by decide +kernel
theorem dX6_find_134 : decode cX6_find 134 = .ok (.if_icmp .ge 102, 3) := by decide +kernel
theorem dX6_find_137 : decode cX6_find 137 = .ok (.aload_n 0, 1) := by decide +kernel
theorem dX6_find_138 : decode cX6_find 138 = .ok (.iload 5, 2) := by decide +kernel
theorem dX6_find_140 : decode cX6_find 140 = .ok (.invokevirtual 114, 3) := by decide +kernel
theorem dX6_find_143 : decode cX6_find 143 = .ok (.istore 6, 2) := by decide +kernel
theorem dX6_find_145 : decode cX6_find 145 = .ok (.iconst 0, 1) := by decide +kernel
theorem dX6_find_146 : decode cX6_find 146 = .ok (.istore 7, 2) := by decide +kernel
theorem dX6_find_148 : decode cX6_find 148 = .ok (.iload 7, 2) := by decide +kernel
theorem dX6_find_150 : decode cX6_find 150 = .ok (.aload_n 0, 1) := by decide +kernel
theorem dX6_find_151 : decode cX6_find 151 = .ok (.getfield 56, 3) := by decide +kernel
theorem dX6_find_154 : decode cX6_find 154 = .ok (.if_icmp .ge 50, 3) := by decide +kernel
theorem dX6_find_157 : decode cX6_find 157 = .ok (.iload 6, 2) := by decide +kernel
theorem dX6_find_159 : decode cX6_find 159 = .ok (.ifCond .eq 45, 3) := by decide +kernel
theorem dX6_find_162 : decode cX6_find 162 = .ok (.aload_n 0, 1) := by decide +kernel
theorem dX6_find_163 : decode cX6_find 163 = .ok (.getfield 13, 3) := by decide +kernel
theorem dX6_find_166 : decode cX6_find 166 = .ok (.iload 5, 2) := by decide +kernel
theorem dX6_find_168 : decode cX6_find 168 = .ok (.iload 7, 2) := by decide +kernel
theorem dX6_find_170 : decode cX6_find 170 = .ok (.iadd, 1) := by decide +kernel
theorem dX6_find_171 : decode cX6_find 171 = .ok (.iaload, 1) := by decide +kernel
theorem dX6_find_172 : decode cX6_find 172 = .ok (.iload_n 3, 1) := by decide +kernel
theorem dX6_find_173 : decode cX6_find 173 = .ok (.imul, 1) := by decide +kernel
theorem dX6_find_174 : decode cX6_find 174 = .ok (.aload_n 0, 1) := by decide +kernel
theorem dX6_find_175 : decode cX6_find 175 = .ok (.getfield 22, 3) := by decide +kernel
theorem dX6_find_178 : decode cX6_find 178 = .ok (.aload_n 0, 1) := by decide +kernel
theorem dX6_find_179 : decode cX6_find 179 = .ok (.iload_n 1, 1) := by decide +kernel
theorem dX6_find_180 : decode cX6_find 180 = .ok (.iload 7, 2) := by decide +kernel
theorem dX6_find_182 : decode cX6_find 182 = .ok (.invokevirtual 104, 3) := by decide +kernel
theorem dX6_find_185 : decode cX6_find 185 = .ok (.iaload, 1) := by decide +kernel
theorem dX6_find_186 : decode cX6_find 186 = .ok (.iload_n 2, 1) := by decide +kernel
theorem dX6_find_187 : decode cX6_find 187 = .ok (.imul, 1) := by decide +kernel
theorem dX6_find_188 : decode cX6_find 188 = .ok (.if_icmp .ne 7, 3) := by decide +kernel
theorem dX6_find_191 : decode cX6_find 191 = .ok (.iconst 1, 1) := by decide +kernel
theorem dX6_find_192 : decode cX6_find 192 = .ok (.goto 4, 3) := by decide +kernel
theorem dX6_find_195 : decode cX6_find 195 = .ok (.iconst 0, 1) := by decide +kernel
theorem dX6_find_196 : decode cX6_find 196 = .ok (.istore 6, 2) := by decide +kernel
theorem dX6_find_198 : decode cX6_find 198 = .ok (.iinc 7 1, 3) := by decide +kernel
theorem dX6_find_201 : decode cX6_find 201 = .ok (.goto (-53), 3) := by decide +kernel
theorem dX6_find_204 : decode cX6_find 204 = .ok (.iload 6, 2) := by decide +kernel
theorem dX6_find_206 : decode cX6_find 206 = .ok (.ifCond .eq 24, 3) := by decide +kernel
theorem dX6_find_209 : decode cX6_find 209 = .ok (.aload_n 0, 1) := by decide +kernel
theorem dX6_find_210 : decode cX6_find 210 = .ok (.getfield 25, 3) := by decide +kernel
theorem dX6_find_213 : decode cX6_find 213 = .ok (.aload_n 0, 1) := by decide +kernel
theorem dX6_find_214 : decode cX6_find 214 = .ok (.getfield 59, 3) := by decide +kernel
theorem dX6_find_217 : decode cX6_find 217 = .ok (.iload 5, 2) := by decide +kernel
theorem dX6_find_219 : decode cX6_find 219 = .ok (.iastore, 1) := by decide +kernel
theorem dX6_find_220 : decode cX6_find 220 = .ok (.aload_n 0, 1) := by decide +kernel
theorem dX6_find_221 : decode cX6_find 221 = .ok (.dup, 1) := by decide +kernel
theorem dX6_find_222 : decode cX6_find 222 = .ok (.getfield 59, 3) := by decide +kernel
theorem dX6_find_225 : decode cX6_find 225 = .ok (.iconst 1, 1) := by decide +kernel
theorem dX6_find_226 : decode cX6_find 226 = .ok (.iadd, 1) := by decide +kernel
theorem dX6_find_227 : decode cX6_find 227 = .ok (.putfield 59, 3) := by decide +kernel
theorem dX6_find_230 : decode cX6_find 230 = .ok (.iinc 5 1, 3) := by decide +kernel
theorem dX6_find_233 : decode cX6_find 233 = .ok (.goto (-105), 3) := by decide +kernel
theorem dX6_find_236 : decode cX6_find 236 = .ok (.aload_n 0, 1) := by decide +kernel
theorem dX6_find_237 : decode cX6_find 237 = .ok (.getfield 59, 3) := by decide +kernel
theorem dX6_find_240 : decode cX6_find 240 = .ok (.ireturn, 1) := by decide +kernel
theorem dX6_answer_0 : decode cX6_answer 0 = .ok (.aload_n 0, 1) := by decide +kernel
theorem dX6_answer_1 : decode cX6_answer 1 = .ok (.iconst 0, 1) := by decide +kernel
theorem dX6_answer_2 : decode cX6_answer 2 = .ok (.putfield 46, 3) := by decide +kernel
theorem dX6_answer_5 : decode cX6_answer 5 = .ok (.aload_n 0, 1) := by decide +kernel
theorem dX6_answer_6 : decode cX6_answer 6 = .ok (.iload_n 1, 1) := by decide +kernel
theorem dX6_answer_7 : decode cX6_answer 7 = .ok (.i2l, 1) := by decide +kernel
theorem dX6_answer_8 : decode cX6_answer 8 = .ok (.lconst 0, 1) := by decide +kernel
theorem dX6_answer_9 : decode cX6_answer 9 = .ok (.ldc2_w 117, 3) := by decide +kernel
theorem dX6_answer_12 : decode cX6_answer 12 = .ok (.invokestatic 70, 3) := by decide +kernel
theorem dX6_answer_15 : decode cX6_answer 15 = .ok (.ifCond .eq 35, 3) := by decide +kernel
theorem dX6_answer_18 : decode cX6_answer 18 = .ok (.iload_n 2, 1) := by decide +kernel
theorem dX6_answer_19 : decode cX6_answer 19 = .ok (.i2l, 1) := by decide +kernel
theorem dX6_answer_20 : decode cX6_answer 20 = .ok (.lconst 0, 1) := by decide +kernel
theorem dX6_answer_21 : decode cX6_answer 21 = .ok (.ldc2_w 102, 3) := by decide +kernel
theorem dX6_answer_24 : decode cX6_answer 24 = .ok (.invokestatic 70, 3) := by decide +kernel
theorem dX6_answer_27 : decode cX6_answer 27 = .ok (.ifCond .eq 23, 3) := by decide +kernel
theorem dX6_answer_30 : decode cX6_answer 30 = .ok (.iload_n 3, 1) := by decide +kernel
theorem dX6_answer_31 : decode cX6_answer 31 = .ok (.i2l, 1) := by decide +kernel
theorem dX6_answer_32 : decode cX6_answer 32 = .ok (.lconst 0, 1) := by decide +kernel
theorem dX6_answer_33 : decode cX6_answer 33 = .ok (.aload_n 0, 1) := by decide +kernel
theorem dX6_answer_34 : decode cX6_answer 34 = .ok (.getfield 56, 3) := by decide +kernel
theorem dX6_answer_37 : decode cX6_answer 37 = .ok (.iconst 1, 1) := by decide +kernel
theorem dX6_answer_38 : decode cX6_answer 38 = .ok (.isub, 1) := by decide +kernel
theorem dX6_answer_39 : decode cX6_answer 39 = .ok (.i2l, 1) := by decide +kernel
theorem dX6_answer_40 : decode cX6_answer 40 = .ok (.invokestatic 70, 3) := by decide +kernel
theorem dX6_answer_43 : decode cX6_answer 43 = .ok (.ifCond .eq 7, 3) := by decide +kernel
theorem dX6_answer_46 : decode cX6_answer 46 = .ok (.iconst 1, 1) := by decide +kernel
theorem dX6_answer_47 : decode cX6_answer 47 = .ok (.goto 4, 3) := by decide +kernel
theorem dX6_answer_50 : decode cX6_answer 50 = .ok (.iconst 0, 1) := by decide +kernel
theorem dX6_answer_51 : decode cX6_answer 51 = .ok (.iconst 1, 1) := by decide +kernel
theorem dX6_answer_52 : decode cX6_answer 52 = .ok (.invokevirtual 76, 3) := by decide +kernel
theorem dX6_answer_55 : decode cX6_answer 55 = .ok (.ifCond .eq 13, 3) := by decide +kernel
theorem dX6_answer_58 : decode cX6_answer 58 = .ok (.aload_n 0, 1) := by decide +kernel
theorem dX6_answer_59 : decode cX6_answer 59 = .ok (.iload_n 1, 1) := by decide +kernel
theorem dX6_answer_60 : decode cX6_answer 60 = .ok (.iload_n 2, 1) := by decide +kernel
theorem dX6_answer_61 : decode cX6_answer 61 = .ok (.iload_n 3, 1) := by decide +kernel
theorem dX6_answer_62 : decode cX6_answer 62 = .ok (.invokevirtual 119, 3) := by decide +kernel
theorem dX6_answer_65 : decode cX6_answer 65 = .ok (.goto 4, 3) := by decide +kernel
theorem dX6_answer_68 : decode cX6_answer 68 = .ok (.iconst 0, 1) := by decide +kernel
theorem dX6_answer_69 : decode cX6_answer 69 = .ok (.ireturn, 1) := by decide +kernel
theorem dX6_entries_0 : decode cX6_entries 0 = .ok (.aload_n 0, 1) := by decide +kernel
theorem dX6_entries_1 : decode cX6_entries 1 = .ok (.iconst 0, 1) := by decide +kernel
theorem dX6_entries_2 : decode cX6_entries 2 = .ok (.putfield 46, 3) := by decide +kernel
theorem dX6_entries_5 : decode cX6_entries 5 = .ok (.aload_n 0, 1) := by decide +kernel
theorem dX6_entries_6 : decode cX6_entries 6 = .ok (.iload_n 1, 1) := by decide +kernel
theorem dX6_entries_7 : decode cX6_entries 7 = .ok (.i2l, 1) := by decide +kernel
theorem dX6_entries_8 : decode cX6_entries 8 = .ok (.lconst 0, 1) := by decide +kernel
theorem dX6_entries_9 : decode cX6_entries 9 = .ok (.ldc2_w 117, 3) := by decide +kernel
theorem dX6_entries_12 : decode cX6_entries 12 = .ok (.invokestatic 70, 3) := by decide +kernel
theorem dX6_entries_15 : decode cX6_entries 15 = .ok (.ifCond .eq 19, 3) := by decide +kernel
theorem dX6_entries_18 : decode cX6_entries 18 = .ok (.iload_n 2, 1) := by decide +kernel
theorem dX6_entries_19 : decode cX6_entries 19 = .ok (.i2l, 1) := by decide +kernel
theorem dX6_entries_20 : decode cX6_entries 20 = .ok (.lconst 0, 1) := by decide +kernel
theorem dX6_entries_21 : decode cX6_entries 21 = .ok (.ldc2_w 102, 3) := by decide +kernel
theorem dX6_entries_24 : decode cX6_entries 24 = .ok (.invokestatic 70, 3) := by decide +kernel
theorem dX6_entries_27 : decode cX6_entries 27 = .ok (.ifCond .eq 7, 3) := by decide +kernel
theorem dX6_entries_30 : decode cX6_entries 30 = .ok (.iconst 1, 1) := by decide +kernel
theorem dX6_entries_31 : decode cX6_entries 31 = .ok (.goto 4, 3) := by decide +kernel
theorem dX6_entries_34 : decode cX6_entries 34 = .ok (.iconst 0, 1) := by decide +kernel
theorem dX6_entries_35 : decode cX6_entries 35 = .ok (.iconst 1, 1) := by decide +kernel
theorem dX6_entries_36 : decode cX6_entries 36 = .ok (.invokevirtual 76, 3) := by decide +kernel
theorem dX6_entries_39 : decode cX6_entries 39 = .ok (.ifCond .eq 23, 3) := by decide +kernel
theorem dX6_entries_42 : decode cX6_entries 42 = .ok (.aload_n 0, 1) := by decide +kernel
theorem dX6_entries_43 : decode cX6_entries 43 = .ok (.aload_n 0, 1) := by decide +kernel
theorem dX6_entries_44 : decode cX6_entries 44 = .ok (.getfield 56, 3) := by decide +kernel
theorem dX6_entries_47 : decode cX6_entries 47 = .ok (.ifCond .le 7, 3) := by decide +kernel
theorem dX6_entries_50 : decode cX6_entries 50 = .ok (.iconst 1, 1) := by decide +kernel
theorem dX6_entries_51 : decode cX6_entries 51 = .ok (.goto 4, 3) := by decide +kernel
theorem dX6_entries_54 : decode cX6_entries 54 = .ok (.iconst 0, 1) := by decide +kernel
theorem dX6_entries_55 : decode cX6_entries 55 = .ok (.iconst 2, 1) := by decide +kernel
theorem dX6_entries_56 : decode cX6_entries 56 = .ok (.invokevirtual 76, 3) := by decide +kernel
theorem dX6_entries_59 : decode cX6_entries 59 = .ok (.ifCond .ne 5, 3) := by decide +kernel
theorem dX6_entries_62 : decode cX6_entries 62 = .ok (.iconst 0, 1) := by decide +kernel
theorem dX6_entries_63 : decode cX6_entries 63 = .ok (.ireturn, 1) := by decide +kernel
theorem dX6_entries_64 : decode cX6_entries 64 = .ok (.iconst 0, 1) := by decide +kernel
theorem dX6_entries_65 : decode cX6_entries 65 = .ok (.istore_n 3, 1) := by decide +kernel
theorem dX6_entries_66 : decode cX6_entries 66 = .ok (.iload_n 3, 1) := by decide +kernel
theorem dX6_entries_67 : decode cX6_entries 67 = .ok (.aload_n 0, 1) := by decide +kernel
theorem dX6_entries_68 : decode cX6_entries 68 = .ok (.getfield 56, 3) := by decide +kernel
theorem dX6_entries_71 : decode cX6_entries 71 = .ok (.if_icmp .ge 22, 3) := by decide +kernel
theorem dX6_entries_74 : decode cX6_entries 74 = .ok (.aload_n 0, 1) := by decide +kernel
theorem dX6_entries_75 : decode cX6_entries 75 = .ok (.getfield 31, 3) := by decide +kernel
theorem dX6_entries_78 : decode cX6_entries 78 = .ok (.iload_n 3, 1) := by decide +kernel
theorem dX6_entries_79 : decode cX6_entries 79 = .ok (.aload_n 0, 1) := by decide +kernel
theorem dX6_entries_80 : decode cX6_entries 80 = .ok (.iload_n 1, 1) := by decide +kernel
theorem dX6_entries_81 : decode cX6_entries 81 = .ok (.iload_n 2, 1) := by decide +kernel
theorem dX6_entries_82 : decode cX6_entries 82 = .ok (.iload_n 3, 1) := by decide +kernel
theorem dX6_entries_83 : decode cX6_entries 83 = .ok (.invokevirtual 119, 3) := by decide +kernel
theorem dX6_entries_86 : decode cX6_entries 86 = .ok (.iastore, 1) := by decide +kernel
theorem dX6_entries_87 : decode cX6_entries 87 = .ok (.iinc 3 1, 3) := by decide +kernel
theorem dX6_entries_90 : decode cX6_entries 90 = .ok (.goto (-24), 3) := by decide +kernel
theorem dX6_entries_93 : decode cX6_entries 93 = .ok (.aload_n 0, 1) := by decide +kernel
theorem dX6_entries_94 : decode cX6_entries 94 = .ok (.iconst 0, 1) := by decide +kernel
theorem dX6_entries_95 : decode cX6_entries 95 = .ok (.putfield 59, 3) := by decide +kernel
theorem dX6_entries_98 : decode cX6_entries 98 = .ok (.iconst 0, 1) := by decide +kernel
theorem dX6_entries_99 : decode cX6_entries 99 = .ok (.istore_n 3, 1) := by decide +kernel
theorem dX6_entries_100 : decode cX6_entries 100 = .ok (.iload_n 3, 1) := by decide +kernel
theorem dX6_entries_101 : decode cX6_entries 101 = .ok (.aload_n 0, 1) := by decide +kernel
theorem dX6_entries_102 : decode cX6_entries 102 = .ok (.getfield 50, 3) := by decide +kernel
theorem dX6_entries_105 : decode cX6_entries 105 = .ok (.if_icmp .ge 37, 3) := by decide +kernel
theorem dX6_entries_108 : decode cX6_entries 108 = .ok (.aload_n 0, 1) := by decide +kernel
theorem dX6_entries_109 : decode cX6_entries 109 = .ok (.iload_n 3, 1) := by decide +kernel
theorem dX6_entries_110 : decode cX6_entries 110 = .ok (.invokevirtual 114, 3) := by decide +kernel
theorem dX6_entries_113 : decode cX6_entries 113 = .ok (.ifCond .eq 23, 3) := by decide +kernel
theorem dX6_entries_116 : decode cX6_entries 116 = .ok (.aload_n 0, 1) := by decide +kernel
theorem dX6_entries_117 : decode cX6_entries 117 = .ok (.getfield 25, 3) := by decide +kernel
theorem dX6_entries_120 : decode cX6_entries 120 = .ok (.aload_n 0, 1) := by decide +kernel
theorem dX6_entries_121 : decode cX6_entries 121 = .ok (.getfield 59, 3) := by decide +kernel
theorem dX6_entries_124 : decode cX6_entries 124 = .ok (.iload_n 3, 1) := by decide +kernel
theorem dX6_entries_125 : decode cX6_entries 125 = .ok (.iastore, 1) := by decide +kernel
theorem dX6_entries_126 : decode cX6_entries 126 = .ok (.aload_n 0, 1) := by decide +kernel
theorem dX6_entries_127 : decode cX6_entries 127 = .ok (.dup, 1) := by decide +kernel
theorem dX6_entries_128 : decode cX6_entries 128 = .ok (.getfield 59, 3) := by decide +kernel
theorem dX6_entries_131 : decode cX6_entries 131 = .ok (.iconst 1, 1) := by decide +kernel
theorem dX6_entries_132 : decode cX6_entries 132 = .ok (.iadd, 1) := by decide +kernel
theorem dX6_entries_133 : decode cX6_entries 133 = .ok (.putfield 59, 3) := by decide +kernel
theorem dX6_entries_136 : decode cX6_entries 136 = .ok (.iinc 3 1, 3) := by decide +kernel
theorem dX6_entries_139 : decode cX6_entries 139 = .ok (.goto (-39), 3) := by decide +kernel
theorem dX6_entries_142 : decode cX6_entries 142 = .ok (.aload_n 0, 1) := by decide +kernel
theorem dX6_entries_143 : decode cX6_entries 143 = .ok (.getfield 59, 3) := by decide +kernel
theorem dX6_entries_146 : decode cX6_entries 146 = .ok (.ireturn, 1) := by decide +kernel
theorem dX6_found_0 : decode cX6_found 0 = .ok (.aload_n 0, 1) := by decide +kernel
theorem dX6_found_1 : decode cX6_found 1 = .ok (.iconst 0, 1) := by decide +kernel
theorem dX6_found_2 : decode cX6_found 2 = .ok (.putfield 46, 3) := by decide +kernel
theorem dX6_found_5 : decode cX6_found 5 = .ok (.aload_n 0, 1) := by decide +kernel
theorem dX6_found_6 : decode cX6_found 6 = .ok (.iload_n 1, 1) := by decide +kernel
theorem dX6_found_7 : decode cX6_found 7 = .ok (.ifCond .lt 7, 3) := by decide +kernel
theorem dX6_found_10 : decode cX6_found 10 = .ok (.iconst 1, 1) := by decide +kernel
theorem dX6_found_11 : decode cX6_found 11 = .ok (.goto 4, 3) := by decide +kernel
theorem dX6_found_14 : decode cX6_found 14 = .ok (.iconst 0, 1) := by decide +kernel
theorem dX6_found_15 : decode cX6_found 15 = .ok (.iconst 1, 1) := by decide +kernel
theorem dX6_found_16 : decode cX6_found 16 = .ok (.invokevirtual 76, 3) := by decide +kernel
theorem dX6_found_19 : decode cX6_found 19 = .ok (.ifCond .ne 5, 3) := by decide +kernel
theorem dX6_found_22 : decode cX6_found 22 = .ok (.iconst 0, 1) := by decide +kernel
theorem dX6_found_23 : decode cX6_found 23 = .ok (.ireturn, 1) := by decide +kernel
theorem dX6_found_24 : decode cX6_found 24 = .ok (.iload_n 1, 1) := by decide +kernel
theorem dX6_found_25 : decode cX6_found 25 = .ok (.aload_n 0, 1) := by decide +kernel
theorem dX6_found_26 : decode cX6_found 26 = .ok (.getfield 59, 3) := by decide +kernel
theorem dX6_found_29 : decode cX6_found 29 = .ok (.if_icmp .ge 12, 3) := by decide +kernel
theorem dX6_found_32 : decode cX6_found 32 = .ok (.aload_n 0, 1) := by decide +kernel
theorem dX6_found_33 : decode cX6_found 33 = .ok (.getfield 25, 3) := by decide +kernel
theorem dX6_found_36 : decode cX6_found 36 = .ok (.iload_n 1, 1) := by decide +kernel
theorem dX6_found_37 : decode cX6_found 37 = .ok (.iaload, 1) := by decide +kernel
theorem dX6_found_38 : decode cX6_found 38 = .ok (.goto 4, 3) := by decide +kernel
theorem dX6_found_41 : decode cX6_found 41 = .ok (.iconst (-1), 1) := by decide +kernel
theorem dX6_found_42 : decode cX6_found 42 = .ok (.ireturn, 1) := by decide +kernel
theorem dX6_costOf_0 : decode cX6_costOf 0 = .ok (.bipush 127, 2) := by decide +kernel
theorem dX6_costOf_2 : decode cX6_costOf 2 = .ok (.istore 5, 2) := by decide +kernel
theorem dX6_costOf_4 : decode cX6_costOf 4 = .ok (.iconst 0, 1) := by decide +kernel
theorem dX6_costOf_5 : decode cX6_costOf 5 = .ok (.istore 6, 2) := by decide +kernel
theorem dX6_costOf_7 : decode cX6_costOf 7 = .ok (.iload_n 1, 1) := by decide +kernel
theorem dX6_costOf_8 : decode cX6_costOf 8 = .ok (.istore 7, 2) := by decide +kernel
theorem dX6_costOf_10 : decode cX6_costOf 10 = .ok (.iload 7, 2) := by decide +kernel
theorem dX6_costOf_12 : decode cX6_costOf 12 = .ok (.iload_n 2, 1) := by decide +kernel
theorem dX6_costOf_13 : decode cX6_costOf 13 = .ok (.if_icmp .ge 61, 3) := by decide +kernel
theorem dX6_costOf_16 : decode cX6_costOf 16 = .ok (.aload_n 0, 1) := by decide +kernel
theorem dX6_costOf_17 : decode cX6_costOf 17 = .ok (.getfield 7, 3) := by decide +kernel
theorem dX6_costOf_20 : decode cX6_costOf 20 = .ok (.iload 7, 2) := by decide +kernel
theorem dX6_costOf_22 : decode cX6_costOf 22 = .ok (.iaload, 1) := by decide +kernel
theorem dX6_costOf_23 : decode cX6_costOf 23 = .ok (.iload 5, 2) := by decide +kernel
theorem dX6_costOf_25 : decode cX6_costOf 25 = .ok (.if_icmp .ge 13, 3) := by decide +kernel
theorem dX6_costOf_28 : decode cX6_costOf 28 = .ok (.aload_n 0, 1) := by decide +kernel
theorem dX6_costOf_29 : decode cX6_costOf 29 = .ok (.getfield 7, 3) := by decide +kernel
theorem dX6_costOf_32 : decode cX6_costOf 32 = .ok (.iload 7, 2) := by decide +kernel
theorem dX6_costOf_34 : decode cX6_costOf 34 = .ok (.iaload, 1) := by decide +kernel
theorem dX6_costOf_35 : decode cX6_costOf 35 = .ok (.goto 5, 3) := by decide +kernel
theorem dX6_costOf_38 : decode cX6_costOf 38 = .ok (.iload 5, 2) := by decide +kernel
theorem dX6_costOf_40 : decode cX6_costOf 40 = .ok (.istore 5, 2) := by decide +kernel
theorem dX6_costOf_42 : decode cX6_costOf 42 = .ok (.aload_n 0, 1) := by decide +kernel
theorem dX6_costOf_43 : decode cX6_costOf 43 = .ok (.getfield 7, 3) := by decide +kernel
theorem dX6_costOf_46 : decode cX6_costOf 46 = .ok (.iload 7, 2) := by decide +kernel
theorem dX6_costOf_48 : decode cX6_costOf 48 = .ok (.iaload, 1) := by decide +kernel
theorem dX6_costOf_49 : decode cX6_costOf 49 = .ok (.iload 6, 2) := by decide +kernel
theorem dX6_costOf_51 : decode cX6_costOf 51 = .ok (.if_icmp .le 13, 3) := by decide +kernel
theorem dX6_costOf_54 : decode cX6_costOf 54 = .ok (.aload_n 0, 1) := by decide +kernel
theorem dX6_costOf_55 : decode cX6_costOf 55 = .ok (.getfield 7, 3) := by decide +kernel
theorem dX6_costOf_58 : decode cX6_costOf 58 = .ok (.iload 7, 2) := by decide +kernel
theorem dX6_costOf_60 : decode cX6_costOf 60 = .ok (.iaload, 1) := by decide +kernel
theorem dX6_costOf_61 : decode cX6_costOf 61 = .ok (.goto 5, 3) := by decide +kernel
theorem dX6_costOf_64 : decode cX6_costOf 64 = .ok (.iload 6, 2) := by decide +kernel
theorem dX6_costOf_66 : decode cX6_costOf 66 = .ok (.istore 6, 2) := by decide +kernel
theorem dX6_costOf_68 : decode cX6_costOf 68 = .ok (.iinc 7 1, 3) := by decide +kernel
theorem dX6_costOf_71 : decode cX6_costOf 71 = .ok (.goto (-61), 3) := by decide +kernel
theorem dX6_costOf_74 : decode cX6_costOf 74 = .ok (.iload_n 3, 1) := by decide +kernel
theorem dX6_costOf_75 : decode cX6_costOf 75 = .ok (.iload 4, 2) := by decide +kernel
theorem dX6_costOf_77 : decode cX6_costOf 77 = .ok (.iload 6, 2) := by decide +kernel
theorem dX6_costOf_79 : decode cX6_costOf 79 = .ok (.iload 5, 2) := by decide +kernel
theorem dX6_costOf_81 : decode cX6_costOf 81 = .ok (.isub, 1) := by decide +kernel
theorem dX6_costOf_82 : decode cX6_costOf 82 = .ok (.imul, 1) := by decide +kernel
theorem dX6_costOf_83 : decode cX6_costOf 83 = .ok (.iadd, 1) := by decide +kernel
theorem dX6_costOf_84 : decode cX6_costOf 84 = .ok (.ireturn, 1) := by decide +kernel
theorem dX6_sections_0 : decode cX6_sections 0 = .ok (.aload_n 0, 1) := by decide +kernel
theorem dX6_sections_1 : decode cX6_sections 1 = .ok (.iconst 0, 1) := by decide +kernel
theorem dX6_sections_2 : decode cX6_sections 2 = .ok (.putfield 46, 3) := by decide +kernel
theorem dX6_sections_5 : decode cX6_sections 5 = .ok (.aload_n 0, 1) := by decide +kernel
theorem dX6_sections_6 : decode cX6_sections 6 = .ok (.iload_n 1, 1) := by decide +kernel
theorem dX6_sections_7 : decode cX6_sections 7 = .ok (.i2l, 1) := by decide +kernel
theorem dX6_sections_8 : decode cX6_sections 8 = .ok (.lconst 0, 1) := by decide +kernel
theorem dX6_sections_9 : decode cX6_sections 9 = .ok (.ldc2_w 122, 3) := by decide +kernel
theorem dX6_sections_12 : decode cX6_sections 12 = .ok (.invokestatic 70, 3) := by decide +kernel
theorem dX6_sections_15 : decode cX6_sections 15 = .ok (.ifCond .eq 19, 3) := by decide +kernel
theorem dX6_sections_18 : decode cX6_sections 18 = .ok (.iload_n 2, 1) := by decide +kernel
theorem dX6_sections_19 : decode cX6_sections 19 = .ok (.i2l, 1) := by decide +kernel
theorem dX6_sections_20 : decode cX6_sections 20 = .ok (.lconst 0, 1) := by decide +kernel
theorem dX6_sections_21 : decode cX6_sections 21 = .ok (.ldc2_w 124, 3) := by decide +kernel
theorem dX6_sections_24 : decode cX6_sections 24 = .ok (.invokestatic 70, 3) := by decide +kernel
theorem dX6_sections_27 : decode cX6_sections 27 = .ok (.ifCond .eq 7, 3) := by decide +kernel
theorem dX6_sections_30 : decode cX6_sections 30 = .ok (.iconst 1, 1) := by decide +kernel
theorem dX6_sections_31 : decode cX6_sections 31 = .ok (.goto 4, 3) := by decide +kernel
theorem dX6_sections_34 : decode cX6_sections 34 = .ok (.iconst 0, 1) := by decide +kernel
theorem dX6_sections_35 : decode cX6_sections 35 = .ok (.iconst 1, 1) := by decide +kernel
theorem dX6_sections_36 : decode cX6_sections 36 = .ok (.invokevirtual 76, 3) := by decide +kernel
theorem dX6_sections_39 : decode cX6_sections 39 = .ok (.ifCond .ne 5, 3) := by decide +kernel
theorem dX6_sections_42 : decode cX6_sections 42 = .ok (.iconst 0, 1) := by decide +kernel
theorem dX6_sections_43 : decode cX6_sections 43 = .ok (.ireturn, 1) := by decide +kernel
theorem dX6_sections_44 : decode cX6_sections 44 = .ok (.aload_n 0, 1) := by decide +kernel
theorem dX6_sections_45 : decode cX6_sections 45 = .ok (.getfield 34, 3) := by decide +kernel
theorem dX6_sections_48 : decode cX6_sections 48 = .ok (.aload_n 0, 1) := by decide +kernel
theorem dX6_sections_49 : decode cX6_sections 49 = .ok (.getfield 50, 3) := by decide +kernel
theorem dX6_sections_52 : decode cX6_sections 52 = .ok (.iconst 0, 1) := by decide +kernel
theorem dX6_sections_53 : decode cX6_sections 53 = .ok (.iastore, 1) := by decide +kernel
theorem dX6_sections_54 : decode cX6_sections 54 = .ok (.aload_n 0, 1) := by decide +kernel
theorem dX6_sections_55 : decode cX6_sections 55 = .ok (.getfield 37, 3) := by decide +kernel
theorem dX6_sections_58 : decode cX6_sections 58 = .ok (.aload_n 0, 1) := by decide +kernel
theorem dX6_sections_59 : decode cX6_sections 59 = .ok (.getfield 50, 3) := by decide +kernel
theorem dX6_sections_62 : decode cX6_sections 62 = .ok (.iconst 0, 1) := by decide +kernel
theorem dX6_sections_63 : decode cX6_sections 63 = .ok (.iastore, 1) := by decide +kernel
theorem dX6_sections_64 : decode cX6_sections 64 = .ok (.aload_n 0, 1) := by decide +kernel
theorem dX6_sections_65 : decode cX6_sections 65 = .ok (.getfield 50, 3) := by decide +kernel
theorem dX6_sections_68 : decode cX6_sections 68 = .ok (.iconst 1, 1) := by decide +kernel
theorem dX6_sections_69 : decode cX6_sections 69 = .ok (.isub, 1) := by decide +kernel
theorem dX6_sections_70 : decode cX6_sections 70 = .ok (.istore_n 3, 1) := by decide +kernel
theorem dX6_sections_71 : decode cX6_sections 71 = .ok (.iload_n 3, 1) := by decide +kernel
theorem dX6_sections_72 : decode cX6_sections 72 = .ok (.ifCond .lt 173, 3) := by decide +kernel
theorem dX6_sections_75 : decode cX6_sections 75 = .ok (.iload_n 3, 1) := by decide +kernel
theorem dX6_sections_76 : decode cX6_sections 76 = .ok (.iconst 1, 1) := by decide +kernel
theorem dX6_sections_77 : decode cX6_sections 77 = .ok (.iadd, 1) := by decide +kernel
theorem dX6_sections_78 : decode cX6_sections 78 = .ok (.istore 4, 2) := by decide +kernel
theorem dX6_sections_80 : decode cX6_sections 80 = .ok (.iload 4, 2) := by decide +kernel
theorem dX6_sections_82 : decode cX6_sections 82 = .ok (.aload_n 0, 1) := by decide +kernel
theorem dX6_sections_83 : decode cX6_sections 83 = .ok (.getfield 50, 3) := by decide +kernel
theorem dX6_sections_86 : decode cX6_sections 86 = .ok (.if_icmp .gt 153, 3) := by decide +kernel
theorem dX6_sections_89 : decode cX6_sections 89 = .ok (.aload_n 0, 1) := by decide +kernel
theorem dX6_sections_90 : decode cX6_sections 90 = .ok (.iload_n 3, 1) := by decide +kernel
theorem dX6_sections_91 : decode cX6_sections 91 = .ok (.iload 4, 2) := by decide +kernel
theorem dX6_sections_93 : decode cX6_sections 93 = .ok (.iload_n 1, 1) := by decide +kernel
theorem dX6_sections_94 : decode cX6_sections 94 = .ok (.iload_n 2, 1) := by decide +kernel
theorem dX6_sections_95 : decode cX6_sections 95 = .ok (.invokevirtual 126, 3) := by decide +kernel
theorem dX6_sections_98 : decode cX6_sections 98 = .ok (.aload_n 0, 1) := by decide +kernel
theorem dX6_sections_99 : decode cX6_sections 99 = .ok (.getfield 34, 3) := by decide +kernel
theorem dX6_sections_102 : decode cX6_sections 102 = .ok (.iload 4, 2) := by decide +kernel
theorem dX6_sections_104 : decode cX6_sections 104 = .ok (.iaload, 1) := by decide +kernel
theorem dX6_sections_105 : decode cX6_sections 105 = .ok (.iadd, 1) := by decide +kernel
theorem dX6_sections_106 : decode cX6_sections 106 = .ok (.istore 5, 2) := by decide +kernel
theorem dX6_sections_108 : decode cX6_sections 108 = .ok (.aload_n 0, 1) := by decide +kernel
theorem dX6_sections_109 : decode cX6_sections 109 = .ok (.getfield 37, 3) := by decide +kernel
theorem dX6_sections_112 : decode cX6_sections 112 = .ok (.iload 4, 2) := by decide +kernel
theorem dX6_sections_114 : decode cX6_sections 114 = .ok (.iaload, 1) := by decide +kernel
theorem dX6_sections_115 : decode cX6_sections 115 = .ok (.iconst 1, 1) := by decide +kernel
theorem dX6_sections_116 : decode cX6_sections 116 = .ok (.iadd, 1) := by decide +kernel
theorem dX6_sections_117 : decode cX6_sections 117 = .ok (.istore 6, 2) := by decide +kernel
theorem dX6_sections_119 : decode cX6_sections 119 = .ok (.iload 4, 2) := by decide +kernel
theorem dX6_sections_121 : decode cX6_sections 121 = .ok (.iload_n 3, 1) := by decide +kernel
theorem dX6_sections_122 : decode cX6_sections 122 = .ok (.iconst 1, 1) := by decide +kernel
theorem dX6_sections_123 : decode cX6_sections 123 = .ok (.iadd, 1) := by decide +kernel
theorem dX6_sections_124 : decode cX6_sections 124 = .ok (.if_icmp .eq 36, 3) := by decide +kernel
theorem dX6_sections_127 : decode cX6_sections 127 = .ok (.iload 5, 2) := by decide +kernel
theorem dX6_sections_129 : decode cX6_sections 129 = .ok (.aload_n 0, 1) := by decide +kernel
theorem dX6_sections_130 : decode cX6_sections 130 = .ok (.getfield 34, 3) := by decide +kernel
theorem dX6_sections_133 : decode cX6_sections 133 = .ok (.iload_n 3, 1) := by decide +kernel
theorem dX6_sections_134 : decode cX6_sections 134 = .ok (.iaload, 1) := by decide +kernel
theorem dX6_sections_135 : decode cX6_sections 135 = .ok (.if_icmp .lt 25, 3) := by decide +kernel
theorem dX6_sections_138 : decode cX6_sections 138 = .ok (.iload 5, 2) := by decide +kernel
theorem dX6_sections_140 : decode cX6_sections 140 = .ok (.aload_n 0, 1) := by decide +kernel
theorem dX6_sections_141 : decode cX6_sections 141 = .ok (.getfield 34, 3) := by decide +kernel
theorem dX6_sections_144 : decode cX6_sections 144 = .ok (.iload_n 3, 1) := by decide +kernel
theorem dX6_sections_145 : decode cX6_sections 145 = .ok (.iaload, 1) := by decide +kernel
theorem dX6_sections_146 : decode cX6_sections 146 = .ok (.if_icmp .ne 18, 3) := by decide +kernel
theorem dX6_sections_149 : decode cX6_sections 149 = .ok (.iload 6, 2) := by decide +kernel
theorem dX6_sections_151 : decode cX6_sections 151 = .ok (.aload_n 0, 1) := by decide +kernel
theorem dX6_sections_152 : decode cX6_sections 152 = .ok (.getfield 37, 3) := by decide +kernel
theorem dX6_sections_155 : decode cX6_sections 155 = .ok (.iload_n 3, 1) := by decide +kernel
theorem dX6_sections_156 : decode cX6_sections 156 = .ok (.iaload, 1) := by decide +kernel
theorem dX6_sections_157 : decode cX6_sections 157 = .ok (.if_icmp .ge 7, 3) := by decide +kernel
theorem dX6_sections_160 : decode cX6_sections 160 = .ok (.iconst 1, 1) := by decide +kernel
theorem dX6_sections_161 : decode cX6_sections 161 = .ok (.goto 4, 3) := by decide +kernel
theorem dX6_sections_164 : decode cX6_sections 164 = .ok (.iconst 0, 1) := by decide +kernel
theorem dX6_sections_165 : decode cX6_sections 165 = .ok (.istore 7, 2) := by decide +kernel
theorem dX6_sections_167 : decode cX6_sections 167 = .ok (.aload_n 0, 1) := by decide +kernel
theorem dX6_sections_168 : decode cX6_sections 168 = .ok (.getfield 34, 3) := by decide +kernel
theorem dX6_sections_171 : decode cX6_sections 171 = .ok (.iload_n 3, 1) := by decide +kernel
theorem dX6_sections_172 : decode cX6_sections 172 = .ok (.iload 7, 2) := by decide +kernel
theorem dX6_sections_174 : decode cX6_sections 174 = .ok (.ifCond .eq 8, 3) := by decide +kernel
theorem dX6_sections_177 : decode cX6_sections 177 = .ok (.iload 5, 2) := by decide +kernel
theorem dX6_sections_179 : decode cX6_sections 179 = .ok (.goto 9, 3) := by decide +kernel
theorem dX6_sections_182 : decode cX6_sections 182 = .ok (.aload_n 0, 1) := by decide +kernel
theorem dX6_sections_183 : decode cX6_sections 183 = .ok (.getfield 34, 3) := by decide +kernel
theorem dX6_sections_186 : decode cX6_sections 186 = .ok (.iload_n 3, 1) := by decide +kernel
theorem dX6_sections_187 : decode cX6_sections 187 = .ok (.iaload, 1) := by decide +kernel
theorem dX6_sections_188 : decode cX6_sections 188 = .ok (.iastore, 1) := by decide +kernel
theorem dX6_sections_189 : decode cX6_sections 189 = .ok (.aload_n 0, 1) := by decide +kernel
theorem dX6_sections_190 : decode cX6_sections 190 = .ok (.getfield 37, 3) := by decide +kernel
theorem dX6_sections_193 : decode cX6_sections 193 = .ok (.iload_n 3, 1) := by decide +kernel
theorem dX6_sections_194 : decode cX6_sections 194 = .ok (.iload 7, 2) := by decide +kernel
theorem dX6_sections_196 : decode cX6_sections 196 = .ok (.ifCond .eq 8, 3) := by decide +kernel
theorem dX6_sections_199 : decode cX6_sections 199 = .ok (.iload 6, 2) := by decide +kernel
theorem dX6_sections_201 : decode cX6_sections 201 = .ok (.goto 9, 3) := by decide +kernel
theorem dX6_sections_204 : decode cX6_sections 204 = .ok (.aload_n 0, 1) := by decide +kernel
theorem dX6_sections_205 : decode cX6_sections 205 = .ok (.getfield 37, 3) := by decide +kernel
theorem dX6_sections_208 : decode cX6_sections 208 = .ok (.iload_n 3, 1) := by decide +kernel
theorem dX6_sections_209 : decode cX6_sections 209 = .ok (.iaload, 1) := by decide +kernel
theorem dX6_sections_210 : decode cX6_sections 210 = .ok (.iastore, 1) := by decide +kernel
theorem dX6_sections_211 : decode cX6_sections 211 = .ok (.aload_n 0, 1) := by decide +kernel
theorem dX6_sections_212 : decode cX6_sections 212 = .ok (.getfield 40, 3) := by decide +kernel
theorem dX6_sections_215 : decode cX6_sections 215 = .ok (.iload_n 3, 1) := by decide +kernel
theorem dX6_sections_216 : decode cX6_sections 216 = .ok (.iload 7, 2) := by decide +kernel
theorem dX6_sections_218 : decode cX6_sections 218 = .ok (.ifCond .eq 8, 3) := by decide +kernel
theorem dX6_sections_221 : decode cX6_sections 221 = .ok (.iload 4, 2) := by decide +kernel
theorem dX6_sections_223 : decode cX6_sections 223 = .ok (.goto 9, 3) := by decide +kernel
theorem dX6_sections_226 : decode cX6_sections 226 = .ok (.aload_n 0, 1) := by decide +kernel
theorem dX6_sections_227 : decode cX6_sections 227 = .ok (.getfield 40, 3) := by decide +kernel
theorem dX6_sections_230 : decode cX6_sections 230 = .ok (.iload_n 3, 1) := by decide +kernel
theorem dX6_sections_231 : decode cX6_sections 231 = .ok (.iaload, 1) := by decide +kernel
theorem dX6_sections_232 : decode cX6_sections 232 = .ok (.iastore, 1) := by decide +kernel
theorem dX6_sections_233 : decode cX6_sections 233 = .ok (.iinc 4 1, 3) := by decide +kernel
theorem dX6_sections_236 : decode cX6_sections 236 = .ok (.goto (-156), 3) := by decide +kernel
theorem dX6_sections_239 : decode cX6_sections 239 = .ok (.iinc 3 (-1), 3) := by decide +kernel
theorem dX6_sections_242 : decode cX6_sections 242 = .ok (.goto (-171), 3) := by decide +kernel
theorem dX6_sections_245 : decode cX6_sections 245 = .ok (.aload_n 0, 1) := by decide +kernel
theorem dX6_sections_246 : decode cX6_sections 246 = .ok (.aload_n 0, 1) := by decide +kernel
theorem dX6_sections_247 : decode cX6_sections 247 = .ok (.getfield 34, 3) := by decide +kernel
theorem dX6_sections_250 : decode cX6_sections 250 = .ok (.iconst 0, 1) := by decide +kernel
theorem dX6_sections_251 : decode cX6_sections 251 = .ok (.iaload, 1) := by decide +kernel
theorem dX6_sections_252 : decode cX6_sections 252 = .ok (.putfield 65, 3) := by decide +kernel
theorem dX6_sections_255 : decode cX6_sections 255 = .ok (.aload_n 0, 1) := by decide +kernel
theorem dX6_sections_256 : decode cX6_sections 256 = .ok (.iconst 0, 1) := by decide +kernel
theorem dX6_sections_257 : decode cX6_sections 257 = .ok (.putfield 62, 3) := by decide +kernel
theorem dX6_sections_260 : decode cX6_sections 260 = .ok (.iconst 0, 1) := by decide +kernel
theorem dX6_sections_261 : decode cX6_sections 261 = .ok (.istore_n 3, 1) := by decide +kernel
theorem dX6_sections_262 : decode cX6_sections 262 = .ok (.iload_n 3, 1) := by decide +kernel
theorem dX6_sections_263 : decode cX6_sections 263 = .ok (.aload_n 0, 1) := by decide +kernel
theorem dX6_sections_264 : decode cX6_sections 264 = .ok (.getfield 50, 3) := by decide +kernel
theorem dX6_sections_267 : decode cX6_sections 267 = .ok (.if_icmp .ge 33, 3) := by decide +kernel
theorem dX6_sections_270 : decode cX6_sections 270 = .ok (.aload_n 0, 1) := by decide +kernel
theorem dX6_sections_271 : decode cX6_sections 271 = .ok (.getfield 28, 3) := by decide +kernel
theorem dX6_sections_274 : decode cX6_sections 274 = .ok (.aload_n 0, 1) := by decide +kernel
theorem dX6_sections_275 : decode cX6_sections 275 = .ok (.getfield 62, 3) := by decide +kernel
theorem dX6_sections_278 : decode cX6_sections 278 = .ok (.iload_n 3, 1) := by decide +kernel
theorem dX6_sections_279 : decode cX6_sections 279 = .ok (.iastore, 1) := by decide +kernel
theorem dX6_sections_280 : decode cX6_sections 280 = .ok (.aload_n 0, 1) := by decide +kernel
theorem dX6_sections_281 : decode cX6_sections 281 = .ok (.dup, 1) := by decide +kernel
theorem dX6_sections_282 : decode cX6_sections 282 = .ok (.getfield 62, 3) := by decide +kernel
theorem dX6_sections_285 : decode cX6_sections 285 = .ok (.iconst 1, 1) := by decide +kernel
theorem dX6_sections_286 : decode cX6_sections 286 = .ok (.iadd, 1) := by decide +kernel
theorem dX6_sections_287 : decode cX6_sections 287 = .ok (.putfield 62, 3) := by decide +kernel
theorem dX6_sections_290 : decode cX6_sections 290 = .ok (.aload_n 0, 1) := by decide +kernel
theorem dX6_sections_291 : decode cX6_sections 291 = .ok (.getfield 40, 3) := by decide +kernel
theorem dX6_sections_294 : decode cX6_sections 294 = .ok (.iload_n 3, 1) := by decide +kernel
theorem dX6_sections_295 : decode cX6_sections 295 = .ok (.iaload, 1) := by decide +kernel
theorem dX6_sections_296 : decode cX6_sections 296 = .ok (.istore_n 3, 1) := by decide +kernel
theorem dX6_sections_297 : decode cX6_sections 297 = .ok (.goto (-35), 3) := by decide +kernel
theorem dX6_sections_300 : decode cX6_sections 300 = .ok (.aload_n 0, 1) := by decide +kernel
theorem dX6_sections_301 : decode cX6_sections 301 = .ok (.getfield 62, 3) := by decide +kernel
theorem dX6_sections_304 : decode cX6_sections 304 = .ok (.ireturn, 1) := by decide +kernel
theorem dX6_section_0 : decode cX6_section 0 = .ok (.aload_n 0, 1) := by decide +kernel
theorem dX6_section_1 : decode cX6_section 1 = .ok (.iconst 0, 1) := by decide +kernel
theorem dX6_section_2 : decode cX6_section 2 = .ok (.putfield 46, 3) := by decide +kernel
theorem dX6_section_5 : decode cX6_section 5 = .ok (.aload_n 0, 1) := by decide +kernel
theorem dX6_section_6 : decode cX6_section 6 = .ok (.iload_n 1, 1) := by decide +kernel
theorem dX6_section_7 : decode cX6_section 7 = .ok (.ifCond .lt 7, 3) := by decide +kernel
theorem dX6_section_10 : decode cX6_section 10 = .ok (.iconst 1, 1) := by decide +kernel
theorem dX6_section_11 : decode cX6_section 11 = .ok (.goto 4, 3) := by decide +kernel
theorem dX6_section_14 : decode cX6_section 14 = .ok (.iconst 0, 1) := by decide +kernel
theorem dX6_section_15 : decode cX6_section 15 = .ok (.iconst 1, 1) := by decide +kernel
theorem dX6_section_16 : decode cX6_section 16 = .ok (.invokevirtual 76, 3) := by decide +kernel
theorem dX6_section_19 : decode cX6_section 19 = .ok (.ifCond .ne 5, 3) := by decide +kernel
theorem dX6_section_22 : decode cX6_section 22 = .ok (.iconst 0, 1) := by decide +kernel
theorem dX6_section_23 : decode cX6_section 23 = .ok (.ireturn, 1) := by decide +kernel
theorem dX6_section_24 : decode cX6_section 24 = .ok (.iload_n 1, 1) := by decide +kernel
theorem dX6_section_25 : decode cX6_section 25 = .ok (.aload_n 0, 1) := by decide +kernel
theorem dX6_section_26 : decode cX6_section 26 = .ok (.getfield 62, 3) := by decide +kernel
theorem dX6_section_29 : decode cX6_section 29 = .ok (.if_icmp .ge 12, 3) := by decide +kernel
theorem dX6_section_32 : decode cX6_section 32 = .ok (.aload_n 0, 1) := by decide +kernel
theorem dX6_section_33 : decode cX6_section 33 = .ok (.getfield 28, 3) := by decide +kernel
theorem dX6_section_36 : decode cX6_section 36 = .ok (.iload_n 1, 1) := by decide +kernel
theorem dX6_section_37 : decode cX6_section 37 = .ok (.iaload, 1) := by decide +kernel
theorem dX6_section_38 : decode cX6_section 38 = .ok (.goto 4, 3) := by decide +kernel
theorem dX6_section_41 : decode cX6_section 41 = .ok (.iconst (-1), 1) := by decide +kernel
theorem dX6_section_42 : decode cX6_section 42 = .ok (.ireturn, 1) := by decide +kernel
theorem dX6_of_0 : decode cX6_of 0 = .ok (.aload_n 0, 1) := by decide +kernel
theorem dX6_of_1 : decode cX6_of 1 = .ok (.iconst 0, 1) := by decide +kernel
theorem dX6_of_2 : decode cX6_of 2 = .ok (.putfield 46, 3) := by decide +kernel
theorem dX6_of_5 : decode cX6_of 5 = .ok (.aload_n 0, 1) := by decide +kernel
theorem dX6_of_6 : decode cX6_of 6 = .ok (.iload_n 1, 1) := by decide +kernel
theorem dX6_of_7 : decode cX6_of 7 = .ok (.i2l, 1) := by decide +kernel
theorem dX6_of_8 : decode cX6_of 8 = .ok (.lconst 0, 1) := by decide +kernel
theorem dX6_of_9 : decode cX6_of 9 = .ok (.ldc2_w 80, 3) := by decide +kernel
theorem dX6_of_12 : decode cX6_of 12 = .ok (.invokestatic 70, 3) := by decide +kernel
theorem dX6_of_15 : decode cX6_of 15 = .ok (.iconst 1, 1) := by decide +kernel
theorem dX6_of_16 : decode cX6_of 16 = .ok (.invokevirtual 76, 3) := by decide +kernel
theorem dX6_of_19 : decode cX6_of 19 = .ok (.ifCond .ne 5, 3) := by decide +kernel
theorem dX6_of_22 : decode cX6_of 22 = .ok (.iconst 0, 1) := by decide +kernel
theorem dX6_of_23 : decode cX6_of 23 = .ok (.ireturn, 1) := by decide +kernel
theorem dX6_of_24 : decode cX6_of 24 = .ok (.iload_n 1, 1) := by decide +kernel
theorem dX6_of_25 : decode cX6_of 25 = .ok (.ifCond .ne 10, 3) := by decide +kernel
theorem dX6_of_28 : decode cX6_of 28 = .ok (.aload_n 0, 1) := by decide +kernel
theorem dX6_of_29 : decode cX6_of 29 = .ok (.getfield 50, 3) := by decide +kernel
theorem dX6_of_32 : decode cX6_of 32 = .ok (.goto 43, 3) := by decide +kernel
theorem dX6_of_35 : decode cX6_of 35 = .ok (.iload_n 1, 1) := by decide +kernel
theorem dX6_of_36 : decode cX6_of 36 = .ok (.iconst 1, 1) := by decide +kernel
theorem dX6_of_37 : decode cX6_of 37 = .ok (.if_icmp .ne 10, 3) := by decide +kernel
theorem dX6_of_40 : decode cX6_of 40 = .ok (.aload_n 0, 1) := by decide +kernel
theorem dX6_of_41 : decode cX6_of 41 = .ok (.getfield 56, 3) := by decide +kernel
theorem dX6_of_44 : decode cX6_of 44 = .ok (.goto 31, 3) := by decide +kernel
theorem dX6_of_47 : decode cX6_of 47 = .ok (.iload_n 1, 1) := by decide +kernel
theorem dX6_of_48 : decode cX6_of 48 = .ok (.iconst 2, 1) := by decide +kernel
theorem dX6_of_49 : decode cX6_of 49 = .ok (.if_icmp .ne 10, 3) := by decide +kernel
theorem dX6_of_52 : decode cX6_of 52 = .ok (.aload_n 0, 1) := by decide +kernel
theorem dX6_of_53 : decode cX6_of 53 = .ok (.getfield 65, 3) := by decide +kernel
theorem dX6_of_56 : decode cX6_of 56 = .ok (.goto 19, 3) := by decide +kernel
theorem dX6_of_59 : decode cX6_of 59 = .ok (.iload_n 1, 1) := by decide +kernel
theorem dX6_of_60 : decode cX6_of 60 = .ok (.iconst 3, 1) := by decide +kernel
theorem dX6_of_61 : decode cX6_of 61 = .ok (.if_icmp .ne 10, 3) := by decide +kernel
theorem dX6_of_64 : decode cX6_of 64 = .ok (.aload_n 0, 1) := by decide +kernel
theorem dX6_of_65 : decode cX6_of 65 = .ok (.getfield 59, 3) := by decide +kernel
theorem dX6_of_68 : decode cX6_of 68 = .ok (.goto 7, 3) := by decide +kernel
theorem dX6_of_71 : decode cX6_of 71 = .ok (.aload_n 0, 1) := by decide +kernel
theorem dX6_of_72 : decode cX6_of 72 = .ok (.getfield 53, 3) := by decide +kernel
theorem dX6_of_75 : decode cX6_of 75 = .ok (.ireturn, 1) := by decide +kernel
end
section
theorem dL_note_0 : decode cL_note 0 = .ok (.aload_n 3, 1) := by decide +kernel
theorem dL_note_1 : decode cL_note 1 = .ok (.iconst 0, 1) := by decide +kernel
theorem dL_note_2 : decode cL_note 2 = .ok (.aload_n 0, 1) := by decide +kernel
theorem dL_note_3 : decode cL_note 3 = .ok (.iload_n 1, 1) := by decide +kernel
theorem dL_note_4 : decode cL_note 4 = .ok (.iload_n 2, 1) := by decide +kernel
theorem dL_note_5 : decode cL_note 5 = .ok (.invokevirtual 7, 3) := by decide +kernel
theorem dL_note_8 : decode cL_note 8 = .ok (.i2l, 1) := by decide +kernel
theorem dL_note_9 : decode cL_note 9 = .ok (.lastore, 1) := by decide +kernel
theorem dL_note_10 : decode cL_note 10 = .ok (.goto 11, 3) := by decide +kernel
theorem dL_note_13 : decode cL_note 13 = .ok (.astore 4, 2) := by decide +kernel
theorem dL_note_15 : decode cL_note 15 = .ok (.iconst 1, 1) := by decide +kernel
theorem dL_note_16 : decode cL_note 16 = .ok (.ireturn, 1) := by decide +kernel
theorem dL_note_17 : decode cL_note 17 = .ok (.astore 4, 2) := by decide +kernel
theorem dL_note_19 : decode cL_note 19 = .ok (.iconst 2, 1) := by decide +kernel
theorem dL_note_20 : decode cL_note 20 = .ok (.ireturn, 1) := by decide +kernel
theorem dL_note_21 : decode cL_note 21 = .ok (.iconst 0, 1) := by decide +kernel
theorem dL_note_22 : decode cL_note 22 = .ok (.ireturn, 1) := by decide +kernel
theorem dL_drop_0 : decode cL_drop 0 = .ok (.aload_n 2, 1) := by decide +kernel
theorem dL_drop_1 : decode cL_drop 1 = .ok (.iconst 0, 1) := by decide +kernel
theorem dL_drop_2 : decode cL_drop 2 = .ok (.aload_n 0, 1) := by decide +kernel
theorem dL_drop_3 : decode cL_drop 3 = .ok (.iload_n 1, 1) := by decide +kernel
theorem dL_drop_4 : decode cL_drop 4 = .ok (.invokevirtual 17, 3) := by decide +kernel
theorem dL_drop_7 : decode cL_drop 7 = .ok (.i2l, 1) := by decide +kernel
theorem dL_drop_8 : decode cL_drop 8 = .ok (.lastore, 1) := by decide +kernel
theorem dL_drop_9 : decode cL_drop 9 = .ok (.goto 6, 3) := by decide +kernel
theorem dL_drop_12 : decode cL_drop 12 = .ok (.astore_n 3, 1) := by decide +kernel
theorem dL_drop_13 : decode cL_drop 13 = .ok (.iconst 1, 1) := by decide +kernel
theorem dL_drop_14 : decode cL_drop 14 = .ok (.ireturn, 1) := by decide +kernel
theorem dL_drop_15 : decode cL_drop 15 = .ok (.iconst 0, 1) := by decide +kernel
theorem dL_drop_16 : decode cL_drop 16 = .ok (.ireturn, 1) := by decide +kernel
theorem dL_items_0 : decode cL_items 0 = .ok (.aload_n 2, 1) := by decide +kernel
theorem dL_items_1 : decode cL_items 1 = .ok (.iconst 0, 1) := by decide +kernel
theorem dL_items_2 : decode cL_items 2 = .ok (.aload_n 0, 1) := by decide +kernel
theorem dL_items_3 : decode cL_items 3 = .ok (.iload_n 1, 1) := by decide +kernel
theorem dL_items_4 : decode cL_items 4 = .ok (.invokevirtual 21, 3) := by decide +kernel
theorem dL_items_7 : decode cL_items 7 = .ok (.i2l, 1) := by decide +kernel
theorem dL_items_8 : decode cL_items 8 = .ok (.lastore, 1) := by decide +kernel
theorem dL_items_9 : decode cL_items 9 = .ok (.goto 6, 3) := by decide +kernel
theorem dL_items_12 : decode cL_items 12 = .ok (.astore_n 3, 1) := by decide +kernel
theorem dL_items_13 : decode cL_items 13 = .ok (.iconst 1, 1) := by decide +kernel
theorem dL_items_14 : decode cL_items 14 = .ok (.ireturn, 1) := by decide +kernel
theorem dL_items_15 : decode cL_items 15 = .ok (.iconst 0, 1) := by decide +kernel
theorem dL_items_16 : decode cL_items 16 = .ok (.ireturn, 1) := by decide +kernel
theorem dL_item_0 : decode cL_item 0 = .ok (.aload_n 3, 1) := by decide +kernel
theorem dL_item_1 : decode cL_item 1 = .ok (.iconst 0, 1) := by decide +kernel
theorem dL_item_2 : decode cL_item 2 = .ok (.aload_n 0, 1) := by decide +kernel
theorem dL_item_3 : decode cL_item 3 = .ok (.iload_n 1, 1) := by decide +kernel
theorem dL_item_4 : decode cL_item 4 = .ok (.iload_n 2, 1) := by decide +kernel
theorem dL_item_5 : decode cL_item 5 = .ok (.invokevirtual 24, 3) := by decide +kernel
theorem dL_item_8 : decode cL_item 8 = .ok (.i2l, 1) := by decide +kernel
theorem dL_item_9 : decode cL_item 9 = .ok (.lastore, 1) := by decide +kernel
theorem dL_item_10 : decode cL_item 10 = .ok (.goto 7, 3) := by decide +kernel
theorem dL_item_13 : decode cL_item 13 = .ok (.astore 4, 2) := by decide +kernel
theorem dL_item_15 : decode cL_item 15 = .ok (.iconst 1, 1) := by decide +kernel
theorem dL_item_16 : decode cL_item 16 = .ok (.ireturn, 1) := by decide +kernel
theorem dL_item_17 : decode cL_item 17 = .ok (.iconst 0, 1) := by decide +kernel
theorem dL_item_18 : decode cL_item 18 = .ok (.ireturn, 1) := by decide +kernel
theorem dL_repeats_0 : decode cL_repeats 0 = .ok (.aload_n 3, 1) := by decide +kernel
theorem dL_repeats_1 : decode cL_repeats 1 = .ok (.iconst 0, 1) := by decide +kernel
theorem dL_repeats_2 : decode cL_repeats 2 = .ok (.aload_n 0, 1) := by decide +kernel
theorem dL_repeats_3 : decode cL_repeats 3 = .ok (.iload_n 1, 1) := by decide +kernel
theorem dL_repeats_4 : decode cL_repeats 4 = .ok (.iload_n 2, 1) := by decide +kernel
theorem dL_repeats_5 : decode cL_repeats 5 = .ok (.invokevirtual 27, 3) := by decide +kernel
theorem dL_repeats_8 : decode cL_repeats 8 = .ok (.i2l, 1) := by decide +kernel
theorem dL_repeats_9 : decode cL_repeats 9 = .ok (.lastore, 1) := by decide +kernel
theorem dL_repeats_10 : decode cL_repeats 10 = .ok (.goto 7, 3) := by decide +kernel
theorem dL_repeats_13 : decode cL_repeats 13 = .ok (.astore 4, 2) := by decide +kernel
theorem dL_repeats_15 : decode cL_repeats 15 = .ok (.iconst 1, 1) := by decide +kernel
theorem dL_repeats_16 : decode cL_repeats 16 = .ok (.ireturn, 1) := by decide +kernel
theorem dL_repeats_17 : decode cL_repeats 17 = .ok (.iconst 0, 1) := by decide +kernel
theorem dL_repeats_18 : decode cL_repeats 18 = .ok (.ireturn, 1) := by decide +kernel
theorem dL_repeat_0 : decode cL_repeat 0 = .ok (.aload_n 3, 1) := by decide +kernel
theorem dL_repeat_1 : decode cL_repeat 1 = .ok (.iconst 0, 1) := by decide +kernel
theorem dL_repeat_2 : decode cL_repeat 2 = .ok (.aload_n 0, 1) := by decide +kernel
theorem dL_repeat_3 : decode cL_repeat 3 = .ok (.iload_n 1, 1) := by decide +kernel
theorem dL_repeat_4 : decode cL_repeat 4 = .ok (.iload_n 2, 1) := by decide +kernel
theorem dL_repeat_5 : decode cL_repeat 5 = .ok (.invokevirtual 30, 3) := by decide +kernel
theorem dL_repeat_8 : decode cL_repeat 8 = .ok (.i2l, 1) := by decide +kernel
theorem dL_repeat_9 : decode cL_repeat 9 = .ok (.lastore, 1) := by decide +kernel
theorem dL_repeat_10 : decode cL_repeat 10 = .ok (.goto 7, 3) := by decide +kernel
theorem dL_repeat_13 : decode cL_repeat 13 = .ok (.astore 4, 2) := by decide +kernel
theorem dL_repeat_15 : decode cL_repeat 15 = .ok (.iconst 1, 1) := by decide +kernel
theorem dL_repeat_16 : decode cL_repeat 16 = .ok (.ireturn, 1) := by decide +kernel
theorem dL_repeat_17 : decode cL_repeat 17 = .ok (.iconst 0, 1) := by decide +kernel
theorem dL_repeat_18 : decode cL_repeat 18 = .ok (.ireturn, 1) := by decide +kernel
theorem dL_passages_0 : decode cL_passages 0 = .ok (.aload_n 3, 1) := by decide +kernel
theorem dL_passages_1 : decode cL_passages 1 = .ok (.iconst 0, 1) := by decide +kernel
theorem dL_passages_2 : decode cL_passages 2 = .ok (.aload_n 0, 1) := by decide +kernel
theorem dL_passages_3 : decode cL_passages 3 = .ok (.iload_n 1, 1) := by decide +kernel
theorem dL_passages_4 : decode cL_passages 4 = .ok (.iload_n 2, 1) := by decide +kernel
theorem dL_passages_5 : decode cL_passages 5 = .ok (.invokevirtual 33, 3) := by decide +kernel
theorem dL_passages_8 : decode cL_passages 8 = .ok (.i2l, 1) := by decide +kernel
theorem dL_passages_9 : decode cL_passages 9 = .ok (.lastore, 1) := by decide +kernel
theorem dL_passages_10 : decode cL_passages 10 = .ok (.goto 7, 3) := by decide +kernel
theorem dL_passages_13 : decode cL_passages 13 = .ok (.astore 4, 2) := by decide +kernel
theorem dL_passages_15 : decode cL_passages 15 = .ok (.iconst 1, 1) := by decide +kernel
theorem dL_passages_16 : decode cL_passages 16 = .ok (.ireturn, 1) := by decide +kernel
theorem dL_passages_17 : decode cL_passages 17 = .ok (.iconst 0, 1) := by decide +kernel
theorem dL_passages_18 : decode cL_passages 18 = .ok (.ireturn, 1) := by decide +kernel
theorem dL_period_0 : decode cL_period 0 = .ok (.aload_n 2, 1) := by decide +kernel
theorem dL_period_1 : decode cL_period 1 = .ok (.iconst 0, 1) := by decide +kernel
theorem dL_period_2 : decode cL_period 2 = .ok (.aload_n 0, 1) := by decide +kernel
theorem dL_period_3 : decode cL_period 3 = .ok (.iload_n 1, 1) := by decide +kernel
theorem dL_period_4 : decode cL_period 4 = .ok (.invokevirtual 36, 3) := by decide +kernel
theorem dL_period_7 : decode cL_period 7 = .ok (.i2l, 1) := by decide +kernel
theorem dL_period_8 : decode cL_period 8 = .ok (.lastore, 1) := by decide +kernel
theorem dL_period_9 : decode cL_period 9 = .ok (.goto 6, 3) := by decide +kernel
theorem dL_period_12 : decode cL_period 12 = .ok (.astore_n 3, 1) := by decide +kernel
theorem dL_period_13 : decode cL_period 13 = .ok (.iconst 1, 1) := by decide +kernel
theorem dL_period_14 : decode cL_period 14 = .ok (.ireturn, 1) := by decide +kernel
theorem dL_period_15 : decode cL_period 15 = .ok (.iconst 0, 1) := by decide +kernel
theorem dL_period_16 : decode cL_period 16 = .ok (.ireturn, 1) := by decide +kernel
theorem dL_alike_0 : decode cL_alike 0 = .ok (.aload 5, 2) := by decide +kernel
theorem dL_alike_2 : decode cL_alike 2 = .ok (.iconst 0, 1) := by decide +kernel
theorem dL_alike_3 : decode cL_alike 3 = .ok (.aload_n 0, 1) := by decide +kernel
theorem dL_alike_4 : decode cL_alike 4 = .ok (.iload_n 1, 1) := by decide +kernel
theorem dL_alike_5 : decode cL_alike 5 = .ok (.iload_n 2, 1) := by decide +kernel
theorem dL_alike_6 : decode cL_alike 6 = .ok (.iload_n 3, 1) := by decide +kernel
theorem dL_alike_7 : decode cL_alike 7 = .ok (.iload 4, 2) := by decide +kernel
theorem dL_alike_9 : decode cL_alike 9 = .ok (.invokevirtual 39, 3) := by decide +kernel
theorem dL_alike_12 : decode cL_alike 12 = .ok (.i2l, 1) := by decide +kernel
theorem dL_alike_13 : decode cL_alike 13 = .ok (.lastore, 1) := by decide +kernel
theorem dL_alike_14 : decode cL_alike 14 = .ok (.goto 11, 3) := by decide +kernel
theorem dL_alike_17 : decode cL_alike 17 = .ok (.astore 6, 2) := by decide +kernel
theorem dL_alike_19 : decode cL_alike 19 = .ok (.iconst 1, 1) := by decide +kernel
theorem dL_alike_20 : decode cL_alike 20 = .ok (.ireturn, 1) := by decide +kernel
theorem dL_alike_21 : decode cL_alike 21 = .ok (.astore 6, 2) := by decide +kernel
theorem dL_alike_23 : decode cL_alike 23 = .ok (.iconst 2, 1) := by decide +kernel
theorem dL_alike_24 : decode cL_alike 24 = .ok (.ireturn, 1) := by decide +kernel
theorem dL_alike_25 : decode cL_alike 25 = .ok (.iconst 0, 1) := by decide +kernel
theorem dL_alike_26 : decode cL_alike 26 = .ok (.ireturn, 1) := by decide +kernel
theorem dL_motive_0 : decode cL_motive 0 = .ok (.aload_n 3, 1) := by decide +kernel
theorem dL_motive_1 : decode cL_motive 1 = .ok (.iconst 0, 1) := by decide +kernel
theorem dL_motive_2 : decode cL_motive 2 = .ok (.aload_n 0, 1) := by decide +kernel
theorem dL_motive_3 : decode cL_motive 3 = .ok (.iload_n 1, 1) := by decide +kernel
theorem dL_motive_4 : decode cL_motive 4 = .ok (.iload_n 2, 1) := by decide +kernel
theorem dL_motive_5 : decode cL_motive 5 = .ok (.invokevirtual 45, 3) := by decide +kernel
theorem dL_motive_8 : decode cL_motive 8 = .ok (.i2l, 1) := by decide +kernel
theorem dL_motive_9 : decode cL_motive 9 = .ok (.lastore, 1) := by decide +kernel
theorem dL_motive_10 : decode cL_motive 10 = .ok (.goto 7, 3) := by decide +kernel
theorem dL_motive_13 : decode cL_motive 13 = .ok (.astore 4, 2) := by decide +kernel
theorem dL_motive_15 : decode cL_motive 15 = .ok (.iconst 1, 1) := by decide +kernel
theorem dL_motive_16 : decode cL_motive 16 = .ok (.ireturn, 1) := by decide +kernel
theorem dL_motive_17 : decode cL_motive 17 = .ok (.iconst 0, 1) := by decide +kernel
theorem dL_motive_18 : decode cL_motive 18 = .ok (.ireturn, 1) := by decide +kernel
theorem dL_form_0 : decode cL_form 0 = .ok (.aload 4, 2) := by decide +kernel
theorem dL_form_2 : decode cL_form 2 = .ok (.iconst 0, 1) := by decide +kernel
theorem dL_form_3 : decode cL_form 3 = .ok (.aload_n 0, 1) := by decide +kernel
theorem dL_form_4 : decode cL_form 4 = .ok (.iload_n 1, 1) := by decide +kernel
theorem dL_form_5 : decode cL_form 5 = .ok (.iload_n 2, 1) := by decide +kernel
theorem dL_form_6 : decode cL_form 6 = .ok (.iload_n 3, 1) := by decide +kernel
theorem dL_form_7 : decode cL_form 7 = .ok (.invokevirtual 48, 3) := by decide +kernel
theorem dL_form_10 : decode cL_form 10 = .ok (.i2l, 1) := by decide +kernel
theorem dL_form_11 : decode cL_form 11 = .ok (.lastore, 1) := by decide +kernel
theorem dL_form_12 : decode cL_form 12 = .ok (.goto 7, 3) := by decide +kernel
theorem dL_form_15 : decode cL_form 15 = .ok (.astore 5, 2) := by decide +kernel
theorem dL_form_17 : decode cL_form 17 = .ok (.iconst 1, 1) := by decide +kernel
theorem dL_form_18 : decode cL_form 18 = .ok (.ireturn, 1) := by decide +kernel
theorem dL_form_19 : decode cL_form 19 = .ok (.iconst 0, 1) := by decide +kernel
theorem dL_form_20 : decode cL_form 20 = .ok (.ireturn, 1) := by decide +kernel
theorem dL_find_0 : decode cL_find 0 = .ok (.aload 4, 2) := by decide +kernel
theorem dL_find_2 : decode cL_find 2 = .ok (.iconst 0, 1) := by decide +kernel
theorem dL_find_3 : decode cL_find 3 = .ok (.aload_n 0, 1) := by decide +kernel
theorem dL_find_4 : decode cL_find 4 = .ok (.iload_n 1, 1) := by decide +kernel
theorem dL_find_5 : decode cL_find 5 = .ok (.iload_n 2, 1) := by decide +kernel
theorem dL_find_6 : decode cL_find 6 = .ok (.iload_n 3, 1) := by decide +kernel
theorem dL_find_7 : decode cL_find 7 = .ok (.invokevirtual 52, 3) := by decide +kernel
theorem dL_find_10 : decode cL_find 10 = .ok (.i2l, 1) := by decide +kernel
theorem dL_find_11 : decode cL_find 11 = .ok (.lastore, 1) := by decide +kernel
theorem dL_find_12 : decode cL_find 12 = .ok (.goto 11, 3) := by decide +kernel
theorem dL_find_15 : decode cL_find 15 = .ok (.astore 5, 2) := by decide +kernel
theorem dL_find_17 : decode cL_find 17 = .ok (.iconst 1, 1) := by decide +kernel
theorem dL_find_18 : decode cL_find 18 = .ok (.ireturn, 1) := by decide +kernel
theorem dL_find_19 : decode cL_find 19 = .ok (.astore 5, 2) := by decide +kernel
theorem dL_find_21 : decode cL_find 21 = .ok (.iconst 2, 1) := by decide +kernel
theorem dL_find_22 : decode cL_find 22 = .ok (.ireturn, 1) := by decide +kernel
theorem dL_find_23 : decode cL_find 23 = .ok (.iconst 0, 1) := by decide +kernel
theorem dL_find_24 : decode cL_find 24 = .ok (.ireturn, 1) := by decide +kernel
theorem dL_answer_0 : decode cL_answer 0 = .ok (.aload 4, 2) := by decide +kernel
theorem dL_answer_2 : decode cL_answer 2 = .ok (.iconst 0, 1) := by decide +kernel
theorem dL_answer_3 : decode cL_answer 3 = .ok (.aload_n 0, 1) := by decide +kernel
theorem dL_answer_4 : decode cL_answer 4 = .ok (.iload_n 1, 1) := by decide +kernel
theorem dL_answer_5 : decode cL_answer 5 = .ok (.iload_n 2, 1) := by decide +kernel
theorem dL_answer_6 : decode cL_answer 6 = .ok (.iload_n 3, 1) := by decide +kernel
theorem dL_answer_7 : decode cL_answer 7 = .ok (.invokevirtual 55, 3) := by decide +kernel
theorem dL_answer_10 : decode cL_answer 10 = .ok (.i2l, 1) := by decide +kernel
theorem dL_answer_11 : decode cL_answer 11 = .ok (.lastore, 1) := by decide +kernel
theorem dL_answer_12 : decode cL_answer 12 = .ok (.goto 7, 3) := by decide +kernel
theorem dL_answer_15 : decode cL_answer 15 = .ok (.astore 5, 2) := by decide +kernel
theorem dL_answer_17 : decode cL_answer 17 = .ok (.iconst 1, 1) := by decide +kernel
theorem dL_answer_18 : decode cL_answer 18 = .ok (.ireturn, 1) := by decide +kernel
theorem dL_answer_19 : decode cL_answer 19 = .ok (.iconst 0, 1) := by decide +kernel
theorem dL_answer_20 : decode cL_answer 20 = .ok (.ireturn, 1) := by decide +kernel
theorem dL_entries_0 : decode cL_entries 0 = .ok (.aload_n 3, 1) := by decide +kernel
theorem dL_entries_1 : decode cL_entries 1 = .ok (.iconst 0, 1) := by decide +kernel
theorem dL_entries_2 : decode cL_entries 2 = .ok (.aload_n 0, 1) := by decide +kernel
theorem dL_entries_3 : decode cL_entries 3 = .ok (.iload_n 1, 1) := by decide +kernel
theorem dL_entries_4 : decode cL_entries 4 = .ok (.iload_n 2, 1) := by decide +kernel
theorem dL_entries_5 : decode cL_entries 5 = .ok (.invokevirtual 58, 3) := by decide +kernel
theorem dL_entries_8 : decode cL_entries 8 = .ok (.i2l, 1) := by decide +kernel
theorem dL_entries_9 : decode cL_entries 9 = .ok (.lastore, 1) := by decide +kernel
theorem dL_entries_10 : decode cL_entries 10 = .ok (.goto 11, 3) := by decide +kernel
theorem dL_entries_13 : decode cL_entries 13 = .ok (.astore 4, 2) := by decide +kernel
theorem dL_entries_15 : decode cL_entries 15 = .ok (.iconst 1, 1) := by decide +kernel
theorem dL_entries_16 : decode cL_entries 16 = .ok (.ireturn, 1) := by decide +kernel
theorem dL_entries_17 : decode cL_entries 17 = .ok (.astore 4, 2) := by decide +kernel
theorem dL_entries_19 : decode cL_entries 19 = .ok (.iconst 2, 1) := by decide +kernel
theorem dL_entries_20 : decode cL_entries 20 = .ok (.ireturn, 1) := by decide +kernel
theorem dL_entries_21 : decode cL_entries 21 = .ok (.iconst 0, 1) := by decide +kernel
theorem dL_entries_22 : decode cL_entries 22 = .ok (.ireturn, 1) := by decide +kernel
theorem dL_found_0 : decode cL_found 0 = .ok (.aload_n 2, 1) := by decide +kernel
theorem dL_found_1 : decode cL_found 1 = .ok (.iconst 0, 1) := by decide +kernel
theorem dL_found_2 : decode cL_found 2 = .ok (.aload_n 0, 1) := by decide +kernel
theorem dL_found_3 : decode cL_found 3 = .ok (.iload_n 1, 1) := by decide +kernel
theorem dL_found_4 : decode cL_found 4 = .ok (.invokevirtual 61, 3) := by decide +kernel
theorem dL_found_7 : decode cL_found 7 = .ok (.i2l, 1) := by decide +kernel
theorem dL_found_8 : decode cL_found 8 = .ok (.lastore, 1) := by decide +kernel
theorem dL_found_9 : decode cL_found 9 = .ok (.goto 6, 3) := by decide +kernel
theorem dL_found_12 : decode cL_found 12 = .ok (.astore_n 3, 1) := by decide +kernel
theorem dL_found_13 : decode cL_found 13 = .ok (.iconst 1, 1) := by decide +kernel
theorem dL_found_14 : decode cL_found 14 = .ok (.ireturn, 1) := by decide +kernel
theorem dL_found_15 : decode cL_found 15 = .ok (.iconst 0, 1) := by decide +kernel
theorem dL_found_16 : decode cL_found 16 = .ok (.ireturn, 1) := by decide +kernel
theorem dL_sections_0 : decode cL_sections 0 = .ok (.aload_n 3, 1) := by decide +kernel
theorem dL_sections_1 : decode cL_sections 1 = .ok (.iconst 0, 1) := by decide +kernel
theorem dL_sections_2 : decode cL_sections 2 = .ok (.aload_n 0, 1) := by decide +kernel
theorem dL_sections_3 : decode cL_sections 3 = .ok (.iload_n 1, 1) := by decide +kernel
theorem dL_sections_4 : decode cL_sections 4 = .ok (.iload_n 2, 1) := by decide +kernel
theorem dL_sections_5 : decode cL_sections 5 = .ok (.invokevirtual 64, 3) := by decide +kernel
theorem dL_sections_8 : decode cL_sections 8 = .ok (.i2l, 1) := by decide +kernel
theorem dL_sections_9 : decode cL_sections 9 = .ok (.lastore, 1) := by decide +kernel
theorem dL_sections_10 : decode cL_sections 10 = .ok (.goto 7, 3) := by decide +kernel
theorem dL_sections_13 : decode cL_sections 13 = .ok (.astore 4, 2) := by decide +kernel
theorem dL_sections_15 : decode cL_sections 15 = .ok (.iconst 1, 1) := by decide +kernel
theorem dL_sections_16 : decode cL_sections 16 = .ok (.ireturn, 1) := by decide +kernel
theorem dL_sections_17 : decode cL_sections 17 = .ok (.iconst 0, 1) := by decide +kernel
theorem dL_sections_18 : decode cL_sections 18 = .ok (.ireturn, 1) := by decide +kernel
theorem dL_section_0 : decode cL_section 0 = .ok (.aload_n 2, 1) := by decide +kernel
theorem dL_section_1 : decode cL_section 1 = .ok (.iconst 0, 1) := by decide +kernel
theorem dL_section_2 : decode cL_section 2 = .ok (.aload_n 0, 1) := by decide +kernel
theorem dL_section_3 : decode cL_section 3 = .ok (.iload_n 1, 1) := by decide +kernel
theorem dL_section_4 : decode cL_section 4 = .ok (.invokevirtual 67, 3) := by decide +kernel
theorem dL_section_7 : decode cL_section 7 = .ok (.i2l, 1) := by decide +kernel
theorem dL_section_8 : decode cL_section 8 = .ok (.lastore, 1) := by decide +kernel
theorem dL_section_9 : decode cL_section 9 = .ok (.goto 6, 3) := by decide +kernel
theorem dL_section_12 : decode cL_section 12 = .ok (.astore_n 3, 1) := by decide +kernel
theorem dL_section_13 : decode cL_section 13 = .ok (.iconst 1, 1) := by decide +kernel
theorem dL_section_14 : decode cL_section 14 = .ok (.ireturn, 1) := by decide +kernel
theorem dL_section_15 : decode cL_section 15 = .ok (.iconst 0, 1) := by decide +kernel
theorem dL_section_16 : decode cL_section 16 = .ok (.ireturn, 1) := by decide +kernel
theorem dL_of_0 : decode cL_of 0 = .ok (.aload_n 2, 1) := by decide +kernel
theorem dL_of_1 : decode cL_of 1 = .ok (.iconst 0, 1) := by decide +kernel
theorem dL_of_2 : decode cL_of 2 = .ok (.aload_n 0, 1) := by decide +kernel
theorem dL_of_3 : decode cL_of 3 = .ok (.iload_n 1, 1) := by decide +kernel
theorem dL_of_4 : decode cL_of 4 = .ok (.invokevirtual 70, 3) := by decide +kernel
theorem dL_of_7 : decode cL_of 7 = .ok (.i2l, 1) := by decide +kernel
theorem dL_of_8 : decode cL_of 8 = .ok (.lastore, 1) := by decide +kernel
theorem dL_of_9 : decode cL_of 9 = .ok (.goto 6, 3) := by decide +kernel
theorem dL_of_12 : decode cL_of 12 = .ok (.astore_n 3, 1) := by decide +kernel
theorem dL_of_13 : decode cL_of 13 = .ok (.iconst 1, 1) := by decide +kernel
theorem dL_of_14 : decode cL_of 14 = .ok (.ireturn, 1) := by decide +kernel
theorem dL_of_15 : decode cL_of 15 = .ok (.iconst 0, 1) := by decide +kernel
theorem dL_of_16 : decode cL_of 16 = .ok (.ireturn, 1) := by decide +kernel
theorem dL_law_0 : decode cL_law 0 = .ok (.new 8, 3) := by decide +kernel
theorem dL_law_3 : decode cL_law 3 = .ok (.dup, 1) := by decide +kernel
theorem dL_law_4 : decode cL_law 4 = .ok (.invokespecial 73, 3) := by decide +kernel
theorem dL_law_7 : decode cL_law 7 = .ok (.astore_n 1, 1) := by decide +kernel
theorem dL_law_8 : decode cL_law 8 = .ok (.new 74, 3) := by decide +kernel
theorem dL_law_11 : decode cL_law 11 = .ok (.dup, 1) := by decide +kernel
theorem dL_law_12 : decode cL_law 12 = .ok (.invokespecial 76, 3) := by decide +kernel
theorem dL_law_15 : decode cL_law 15 = .ok (.astore_n 2, 1) := by decide +kernel
theorem dL_law_16 : decode cL_law 16 = .ok (.iconst 1, 1) := by decide +kernel
theorem dL_law_17 : decode cL_law 17 = .ok (.newarray .long, 2) := by decide +kernel
theorem dL_law_19 : decode cL_law 19 = .ok (.astore_n 3, 1) := by decide +kernel
theorem dL_law_20 : decode cL_law 20 = .ok (.iconst 0, 1) := by decide +kernel
theorem dL_law_21 : decode cL_law 21 = .ok (.istore 4, 2) := by decide +kernel
theorem dL_law_23 : decode cL_law 23 = .ok (.iload 4, 2) := by decide +kernel
theorem dL_law_25 : decode cL_law 25 = .ok (.aload_n 0, 1) := by decide +kernel
theorem dL_law_26 : decode cL_law 26 = .ok (.arraylength, 1) := by decide +kernel
theorem dL_law_27 : decode cL_law 27 = .ok (.iconst 5, 1) := by decide +kernel
theorem dL_law_28 : decode cL_law 28 = .ok (.isub, 1) := by decide +kernel
theorem dL_law_29 : decode cL_law 29 = .ok (.if_icmp .gt 1330, 3) := by decide +kernel
theorem dL_law_32 : decode cL_law 32 = .ok (.aload_n 0, 1) := by decide +kernel
theorem dL_law_33 : decode cL_law 33 = .ok (.iload 4, 2) := by decide +kernel
theorem dL_law_35 : decode cL_law 35 = .ok (.iaload, 1) := by decide +kernel
theorem dL_law_36 : decode cL_law 36 = .ok (.bipush 31, 2) := by decide +kernel
theorem dL_law_38 : decode cL_law 38 = .ok (.iand, 1) := by decide +kernel
theorem dL_law_39 : decode cL_law 39 = .ok (.tableswitch 1314 0 18 #[89, 102, 170, 226, 282, 350, 418, 486, 554, 610, 702, 770, 850, 930, 1010, 1078, 1134, 1202, 1258], 89) := by decide +kernel
theorem dL_law_128 : decode cL_law 128 = .ok (.aload_n 1, 1) := by decide +kernel
theorem dL_law_129 : decode cL_law 129 = .ok (.invokevirtual 77, 3) := by decide +kernel
theorem dL_law_132 : decode cL_law 132 = .ok (.aload_n 2, 1) := by decide +kernel
theorem dL_law_133 : decode cL_law 133 = .ok (.invokevirtual 81, 3) := by decide +kernel
theorem dL_law_136 : decode cL_law 136 = .ok (.if_icmp .eq 1217, 3) := by decide +kernel
theorem dL_law_139 : decode cL_law 139 = .ok (.iconst 0, 1) := by decide +kernel
theorem dL_law_140 : decode cL_law 140 = .ok (.ireturn, 1) := by decide +kernel
theorem dL_law_141 : decode cL_law 141 = .ok (.aload_n 1, 1) := by decide +kernel
theorem dL_law_142 : decode cL_law 142 = .ok (.aload_n 0, 1) := by decide +kernel
theorem dL_law_143 : decode cL_law 143 = .ok (.iload 4, 2) := by decide +kernel
theorem dL_law_145 : decode cL_law 145 = .ok (.iconst 1, 1) := by decide +kernel
theorem dL_law_146 : decode cL_law 146 = .ok (.iadd, 1) := by decide +kernel
theorem dL_law_147 : decode cL_law 147 = .ok (.iaload, 1) := by decide +kernel
theorem dL_law_148 : decode cL_law 148 = .ok (.aload_n 0, 1) := by decide +kernel
theorem dL_law_149 : decode cL_law 149 = .ok (.iload 4, 2) := by decide +kernel
theorem dL_law_151 : decode cL_law 151 = .ok (.iconst 2, 1) := by decide +kernel
theorem dL_law_152 : decode cL_law 152 = .ok (.iadd, 1) := by decide +kernel
theorem dL_law_153 : decode cL_law 153 = .ok (.iaload, 1) := by decide +kernel
theorem dL_law_154 : decode cL_law 154 = .ok (.aload_n 3, 1) := by decide +kernel
theorem dL_law_155 : decode cL_law 155 = .ok (.invokestatic 82, 3) := by decide +kernel
theorem dL_law_158 : decode cL_law 158 = .ok (.istore 5, 2) := by decide +kernel
theorem dL_law_160 : decode cL_law 160 = .ok (.aload_n 2, 1) := by decide +kernel
theorem dL_law_161 : decode cL_law 161 = .ok (.aload_n 0, 1) := by decide +kernel
theorem dL_law_162 : decode cL_law 162 = .ok (.iload 4, 2) := by decide +kernel
theorem dL_law_164 : decode cL_law 164 = .ok (.iconst 1, 1) := by decide +kernel
theorem dL_law_165 : decode cL_law 165 = .ok (.iadd, 1) := by decide +kernel
theorem dL_law_166 : decode cL_law 166 = .ok (.iaload, 1) := by decide +kernel
theorem dL_law_167 : decode cL_law 167 = .ok (.aload_n 0, 1) := by decide +kernel
theorem dL_law_168 : decode cL_law 168 = .ok (.iload 4, 2) := by decide +kernel
theorem dL_law_170 : decode cL_law 170 = .ok (.iconst 2, 1) := by decide +kernel
theorem dL_law_171 : decode cL_law 171 = .ok (.iadd, 1) := by decide +kernel
theorem dL_law_172 : decode cL_law 172 = .ok (.iaload, 1) := by decide +kernel
theorem dL_law_173 : decode cL_law 173 = .ok (.invokevirtual 87, 3) := by decide +kernel
theorem dL_law_176 : decode cL_law 176 = .ok (.istore 6, 2) := by decide +kernel
theorem dL_law_178 : decode cL_law 178 = .ok (.aload_n 2, 1) := by decide +kernel
theorem dL_law_179 : decode cL_law 179 = .ok (.invokevirtual 88, 3) := by decide +kernel
theorem dL_law_182 : decode cL_law 182 = .ok (.iload 5, 2) := by decide +kernel
theorem dL_law_184 : decode cL_law 184 = .ok (.if_icmp .eq 5, 3) := by decide +kernel
theorem dL_law_187 : decode cL_law 187 = .ok (.iconst 0, 1) := by decide +kernel
theorem dL_law_188 : decode cL_law 188 = .ok (.ireturn, 1) := by decide +kernel
theorem dL_law_189 : decode cL_law 189 = .ok (.iload 5, 2) := by decide +kernel
theorem dL_law_191 : decode cL_law 191 = .ok (.ifCond .ne 15, 3) := by decide +kernel
theorem dL_law_194 : decode cL_law 194 = .ok (.aload_n 3, 1) := by decide +kernel
theorem dL_law_195 : decode cL_law 195 = .ok (.iconst 0, 1) := by decide +kernel
theorem dL_law_196 : decode cL_law 196 = .ok (.laload, 1) := by decide +kernel
theorem dL_law_197 : decode cL_law 197 = .ok (.iload 6, 2) := by decide +kernel
theorem dL_law_199 : decode cL_law 199 = .ok (.i2l, 1) := by decide +kernel
theorem dL_law_200 : decode cL_law 200 = .ok (.lcmp, 1) := by decide +kernel
theorem dL_law_201 : decode cL_law 201 = .ok (.ifCond .eq 5, 3) := by decide +kernel
theorem dL_law_204 : decode cL_law 204 = .ok (.iconst 0, 1) := by decide +kernel
theorem dL_law_205 : decode cL_law 205 = .ok (.ireturn, 1) := by decide +kernel
theorem dL_law_206 : decode cL_law 206 = .ok (.goto 1147, 3) := by decide +kernel
theorem dL_law_209 : decode cL_law 209 = .ok (.aload_n 1, 1) := by decide +kernel
theorem dL_law_210 : decode cL_law 210 = .ok (.aload_n 0, 1) := by decide +kernel
theorem dL_law_211 : decode cL_law 211 = .ok (.iload 4, 2) := by decide +kernel
theorem dL_law_213 : decode cL_law 213 = .ok (.iconst 1, 1) := by decide +kernel
theorem dL_law_214 : decode cL_law 214 = .ok (.iadd, 1) := by decide +kernel
theorem dL_law_215 : decode cL_law 215 = .ok (.iaload, 1) := by decide +kernel
theorem dL_law_216 : decode cL_law 216 = .ok (.aload_n 3, 1) := by decide +kernel
theorem dL_law_217 : decode cL_law 217 = .ok (.invokestatic 91, 3) := by decide +kernel
theorem dL_law_220 : decode cL_law 220 = .ok (.istore 5, 2) := by decide +kernel
theorem dL_law_222 : decode cL_law 222 = .ok (.aload_n 2, 1) := by decide +kernel
theorem dL_law_223 : decode cL_law 223 = .ok (.aload_n 0, 1) := by decide +kernel
theorem dL_law_224 : decode cL_law 224 = .ok (.iload 4, 2) := by decide +kernel
theorem dL_law_226 : decode cL_law 226 = .ok (.iconst 1, 1) := by decide +kernel
theorem dL_law_227 : decode cL_law 227 = .ok (.iadd, 1) := by decide +kernel
theorem dL_law_228 : decode cL_law 228 = .ok (.iaload, 1) := by decide +kernel
theorem dL_law_229 : decode cL_law 229 = .ok (.invokevirtual 94, 3) := by decide +kernel
theorem dL_law_232 : decode cL_law 232 = .ok (.istore 6, 2) := by decide +kernel
theorem dL_law_234 : decode cL_law 234 = .ok (.aload_n 2, 1) := by decide +kernel
theorem dL_law_235 : decode cL_law 235 = .ok (.invokevirtual 88, 3) := by decide +kernel
theorem dL_law_238 : decode cL_law 238 = .ok (.iload 5, 2) := by decide +kernel
theorem dL_law_240 : decode cL_law 240 = .ok (.if_icmp .eq 5, 3) := by decide +kernel
theorem dL_law_243 : decode cL_law 243 = .ok (.iconst 0, 1) := by decide +kernel
theorem dL_law_244 : decode cL_law 244 = .ok (.ireturn, 1) := by decide +kernel
theorem dL_law_245 : decode cL_law 245 = .ok (.iload 5, 2) := by decide +kernel
theorem dL_law_247 : decode cL_law 247 = .ok (.ifCond .ne 15, 3) := by decide +kernel
theorem dL_law_250 : decode cL_law 250 = .ok (.aload_n 3, 1) := by decide +kernel
theorem dL_law_251 : decode cL_law 251 = .ok (.iconst 0, 1) := by decide +kernel
theorem dL_law_252 : decode cL_law 252 = .ok (.laload, 1) := by decide +kernel
theorem dL_law_253 : decode cL_law 253 = .ok (.iload 6, 2) := by decide +kernel
theorem dL_law_255 : decode cL_law 255 = .ok (.i2l, 1) := by decide +kernel
theorem dL_law_256 : decode cL_law 256 = .ok (.lcmp, 1) := by decide +kernel
theorem dL_law_257 : decode cL_law 257 = .ok (.ifCond .eq 5, 3) := by decide +kernel
theorem dL_law_260 : decode cL_law 260 = .ok (.iconst 0, 1) := by decide +kernel
theorem dL_law_261 : decode cL_law 261 = .ok (.ireturn, 1) := by decide +kernel
theorem dL_law_262 : decode cL_law 262 = .ok (.goto 1091, 3) := by decide +kernel
theorem dL_law_265 : decode cL_law 265 = .ok (.aload_n 1, 1) := by decide +kernel
theorem dL_law_266 : decode cL_law 266 = .ok (.aload_n 0, 1) := by decide +kernel
theorem dL_law_267 : decode cL_law 267 = .ok (.iload 4, 2) := by decide +kernel
theorem dL_law_269 : decode cL_law 269 = .ok (.iconst 1, 1) := by decide +kernel
theorem dL_law_270 : decode cL_law 270 = .ok (.iadd, 1) := by decide +kernel
theorem dL_law_271 : decode cL_law 271 = .ok (.iaload, 1) := by decide +kernel
theorem dL_law_272 : decode cL_law 272 = .ok (.aload_n 3, 1) := by decide +kernel
theorem dL_law_273 : decode cL_law 273 = .ok (.invokestatic 95, 3) := by decide +kernel
theorem dL_law_276 : decode cL_law 276 = .ok (.istore 5, 2) := by decide +kernel
theorem dL_law_278 : decode cL_law 278 = .ok (.aload_n 2, 1) := by decide +kernel
theorem dL_law_279 : decode cL_law 279 = .ok (.aload_n 0, 1) := by decide +kernel
theorem dL_law_280 : decode cL_law 280 = .ok (.iload 4, 2) := by decide +kernel
theorem dL_law_282 : decode cL_law 282 = .ok (.iconst 1, 1) := by decide +kernel
theorem dL_law_283 : decode cL_law 283 = .ok (.iadd, 1) := by decide +kernel
theorem dL_law_284 : decode cL_law 284 = .ok (.iaload, 1) := by decide +kernel
theorem dL_law_285 : decode cL_law 285 = .ok (.invokevirtual 97, 3) := by decide +kernel
theorem dL_law_288 : decode cL_law 288 = .ok (.istore 6, 2) := by decide +kernel
theorem dL_law_290 : decode cL_law 290 = .ok (.aload_n 2, 1) := by decide +kernel
theorem dL_law_291 : decode cL_law 291 = .ok (.invokevirtual 88, 3) := by decide +kernel
theorem dL_law_294 : decode cL_law 294 = .ok (.iload 5, 2) := by decide +kernel
theorem dL_law_296 : decode cL_law 296 = .ok (.if_icmp .eq 5, 3) := by decide +kernel
theorem dL_law_299 : decode cL_law 299 = .ok (.iconst 0, 1) := by decide +kernel
theorem dL_law_300 : decode cL_law 300 = .ok (.ireturn, 1) := by decide +kernel
theorem dL_law_301 : decode cL_law 301 = .ok (.iload 5, 2) := by decide +kernel
theorem dL_law_303 : decode cL_law 303 = .ok (.ifCond .ne 15, 3) := by decide +kernel
theorem dL_law_306 : decode cL_law 306 = .ok (.aload_n 3, 1) := by decide +kernel
theorem dL_law_307 : decode cL_law 307 = .ok (.iconst 0, 1) := by decide +kernel
theorem dL_law_308 : decode cL_law 308 = .ok (.laload, 1) := by decide +kernel
theorem dL_law_309 : decode cL_law 309 = .ok (.iload 6, 2) := by decide +kernel
theorem dL_law_311 : decode cL_law 311 = .ok (.i2l, 1) := by decide +kernel
theorem dL_law_312 : decode cL_law 312 = .ok (.lcmp, 1) := by decide +kernel
theorem dL_law_313 : decode cL_law 313 = .ok (.ifCond .eq 5, 3) := by decide +kernel
theorem dL_law_316 : decode cL_law 316 = .ok (.iconst 0, 1) := by decide +kernel
theorem dL_law_317 : decode cL_law 317 = .ok (.ireturn, 1) := by decide +kernel
theorem dL_law_318 : decode cL_law 318 = .ok (.goto 1035, 3) := by decide +kernel
theorem dL_law_321 : decode cL_law 321 = .ok (.aload_n 1, 1) := by decide +kernel
theorem dL_law_322 : decode cL_law 322 = .ok (.aload_n 0, 1) := by decide +kernel
theorem dL_law_323 : decode cL_law 323 = .ok (.iload 4, 2) := by decide +kernel
theorem dL_law_325 : decode cL_law 325 = .ok (.iconst 1, 1) := by decide +kernel
theorem dL_law_326 : decode cL_law 326 = .ok (.iadd, 1) := by decide +kernel
theorem dL_law_327 : decode cL_law 327 = .ok (.iaload, 1) := by decide +kernel
theorem dL_law_328 : decode cL_law 328 = .ok (.aload_n 0, 1) := by decide +kernel
theorem dL_law_329 : decode cL_law 329 = .ok (.iload 4, 2) := by decide +kernel
theorem dL_law_331 : decode cL_law 331 = .ok (.iconst 2, 1) := by decide +kernel
theorem dL_law_332 : decode cL_law 332 = .ok (.iadd, 1) := by decide +kernel
theorem dL_law_333 : decode cL_law 333 = .ok (.iaload, 1) := by decide +kernel
theorem dL_law_334 : decode cL_law 334 = .ok (.aload_n 3, 1) := by decide +kernel
theorem dL_law_335 : decode cL_law 335 = .ok (.invokestatic 98, 3) := by decide +kernel
theorem dL_law_338 : decode cL_law 338 = .ok (.istore 5, 2) := by decide +kernel
theorem dL_law_340 : decode cL_law 340 = .ok (.aload_n 2, 1) := by decide +kernel
theorem dL_law_341 : decode cL_law 341 = .ok (.aload_n 0, 1) := by decide +kernel
theorem dL_law_342 : decode cL_law 342 = .ok (.iload 4, 2) := by decide +kernel
theorem dL_law_344 : decode cL_law 344 = .ok (.iconst 1, 1) := by decide +kernel
theorem dL_law_345 : decode cL_law 345 = .ok (.iadd, 1) := by decide +kernel
theorem dL_law_346 : decode cL_law 346 = .ok (.iaload, 1) := by decide +kernel
theorem dL_law_347 : decode cL_law 347 = .ok (.aload_n 0, 1) := by decide +kernel
theorem dL_law_348 : decode cL_law 348 = .ok (.iload 4, 2) := by decide +kernel
theorem dL_law_350 : decode cL_law 350 = .ok (.iconst 2, 1) := by decide +kernel
theorem dL_law_351 : decode cL_law 351 = .ok (.iadd, 1) := by decide +kernel
theorem dL_law_352 : decode cL_law 352 = .ok (.iaload, 1) := by decide +kernel
theorem dL_law_353 : decode cL_law 353 = .ok (.invokevirtual 100, 3) := by decide +kernel
theorem dL_law_356 : decode cL_law 356 = .ok (.istore 6, 2) := by decide +kernel
theorem dL_law_358 : decode cL_law 358 = .ok (.aload_n 2, 1) := by decide +kernel
theorem dL_law_359 : decode cL_law 359 = .ok (.invokevirtual 88, 3) := by decide +kernel
theorem dL_law_362 : decode cL_law 362 = .ok (.iload 5, 2) := by decide +kernel
theorem dL_law_364 : decode cL_law 364 = .ok (.if_icmp .eq 5, 3) := by decide +kernel
theorem dL_law_367 : decode cL_law 367 = .ok (.iconst 0, 1) := by decide +kernel
theorem dL_law_368 : decode cL_law 368 = .ok (.ireturn, 1) := by decide +kernel
theorem dL_law_369 : decode cL_law 369 = .ok (.iload 5, 2) := by decide +kernel
theorem dL_law_371 : decode cL_law 371 = .ok (.ifCond .ne 15, 3) := by decide +kernel
theorem dL_law_374 : decode cL_law 374 = .ok (.aload_n 3, 1) := by decide +kernel
theorem dL_law_375 : decode cL_law 375 = .ok (.iconst 0, 1) := by decide +kernel
theorem dL_law_376 : decode cL_law 376 = .ok (.laload, 1) := by decide +kernel
theorem dL_law_377 : decode cL_law 377 = .ok (.iload 6, 2) := by decide +kernel
theorem dL_law_379 : decode cL_law 379 = .ok (.i2l, 1) := by decide +kernel
theorem dL_law_380 : decode cL_law 380 = .ok (.lcmp, 1) := by decide +kernel
theorem dL_law_381 : decode cL_law 381 = .ok (.ifCond .eq 5, 3) := by decide +kernel
theorem dL_law_384 : decode cL_law 384 = .ok (.iconst 0, 1) := by decide +kernel
theorem dL_law_385 : decode cL_law 385 = .ok (.ireturn, 1) := by decide +kernel
theorem dL_law_386 : decode cL_law 386 = .ok (.goto 967, 3) := by decide +kernel
theorem dL_law_389 : decode cL_law 389 = .ok (.aload_n 1, 1) := by decide +kernel
theorem dL_law_390 : decode cL_law 390 = .ok (.aload_n 0, 1) := by decide +kernel
theorem dL_law_391 : decode cL_law 391 = .ok (.iload 4, 2) := by decide +kernel
theorem dL_law_393 : decode cL_law 393 = .ok (.iconst 1, 1) := by decide +kernel
theorem dL_law_394 : decode cL_law 394 = .ok (.iadd, 1) := by decide +kernel
theorem dL_law_395 : decode cL_law 395 = .ok (.iaload, 1) := by decide +kernel
theorem dL_law_396 : decode cL_law 396 = .ok (.aload_n 0, 1) := by decide +kernel
theorem dL_law_397 : decode cL_law 397 = .ok (.iload 4, 2) := by decide +kernel
theorem dL_law_399 : decode cL_law 399 = .ok (.iconst 2, 1) := by decide +kernel
theorem dL_law_400 : decode cL_law 400 = .ok (.iadd, 1) := by decide +kernel
theorem dL_law_401 : decode cL_law 401 = .ok (.iaload, 1) := by decide +kernel
theorem dL_law_402 : decode cL_law 402 = .ok (.aload_n 3, 1) := by decide +kernel
theorem dL_law_403 : decode cL_law 403 = .ok (.invokestatic 101, 3) := by decide +kernel
theorem dL_law_406 : decode cL_law 406 = .ok (.istore 5, 2) := by decide +kernel
theorem dL_law_408 : decode cL_law 408 = .ok (.aload_n 2, 1) := by decide +kernel
theorem dL_law_409 : decode cL_law 409 = .ok (.aload_n 0, 1) := by decide +kernel
theorem dL_law_410 : decode cL_law 410 = .ok (.iload 4, 2) := by decide +kernel
theorem dL_law_412 : decode cL_law 412 = .ok (.iconst 1, 1) := by decide +kernel
theorem dL_law_413 : decode cL_law 413 = .ok (.iadd, 1) := by decide +kernel
theorem dL_law_414 : decode cL_law 414 = .ok (.iaload, 1) := by decide +kernel
theorem dL_law_415 : decode cL_law 415 = .ok (.aload_n 0, 1) := by decide +kernel
theorem dL_law_416 : decode cL_law 416 = .ok (.iload 4, 2) := by decide +kernel
theorem dL_law_418 : decode cL_law 418 = .ok (.iconst 2, 1) := by decide +kernel
theorem dL_law_419 : decode cL_law 419 = .ok (.iadd, 1) := by decide +kernel
theorem dL_law_420 : decode cL_law 420 = .ok (.iaload, 1) := by decide +kernel
theorem dL_law_421 : decode cL_law 421 = .ok (.invokevirtual 103, 3) := by decide +kernel
theorem dL_law_424 : decode cL_law 424 = .ok (.istore 6, 2) := by decide +kernel
theorem dL_law_426 : decode cL_law 426 = .ok (.aload_n 2, 1) := by decide +kernel
theorem dL_law_427 : decode cL_law 427 = .ok (.invokevirtual 88, 3) := by decide +kernel
theorem dL_law_430 : decode cL_law 430 = .ok (.iload 5, 2) := by decide +kernel
theorem dL_law_432 : decode cL_law 432 = .ok (.if_icmp .eq 5, 3) := by decide +kernel
theorem dL_law_435 : decode cL_law 435 = .ok (.iconst 0, 1) := by decide +kernel
theorem dL_law_436 : decode cL_law 436 = .ok (.ireturn, 1) := by decide +kernel
theorem dL_law_437 : decode cL_law 437 = .ok (.iload 5, 2) := by decide +kernel
theorem dL_law_439 : decode cL_law 439 = .ok (.ifCond .ne 15, 3) := by decide +kernel
theorem dL_law_442 : decode cL_law 442 = .ok (.aload_n 3, 1) := by decide +kernel
theorem dL_law_443 : decode cL_law 443 = .ok (.iconst 0, 1) := by decide +kernel
theorem dL_law_444 : decode cL_law 444 = .ok (.laload, 1) := by decide +kernel
theorem dL_law_445 : decode cL_law 445 = .ok (.iload 6, 2) := by decide +kernel
theorem dL_law_447 : decode cL_law 447 = .ok (.i2l, 1) := by decide +kernel
theorem dL_law_448 : decode cL_law 448 = .ok (.lcmp, 1) := by decide +kernel
theorem dL_law_449 : decode cL_law 449 = .ok (.ifCond .eq 5, 3) := by decide +kernel
theorem dL_law_452 : decode cL_law 452 = .ok (.iconst 0, 1) := by decide +kernel
theorem dL_law_453 : decode cL_law 453 = .ok (.ireturn, 1) := by decide +kernel
theorem dL_law_454 : decode cL_law 454 = .ok (.goto 899, 3) := by decide +kernel
theorem dL_law_457 : decode cL_law 457 = .ok (.aload_n 1, 1) := by decide +kernel
theorem dL_law_458 : decode cL_law 458 = .ok (.aload_n 0, 1) := by decide +kernel
theorem dL_law_459 : decode cL_law 459 = .ok (.iload 4, 2) := by decide +kernel
theorem dL_law_461 : decode cL_law 461 = .ok (.iconst 1, 1) := by decide +kernel
theorem dL_law_462 : decode cL_law 462 = .ok (.iadd, 1) := by decide +kernel
theorem dL_law_463 : decode cL_law 463 = .ok (.iaload, 1) := by decide +kernel
theorem dL_law_464 : decode cL_law 464 = .ok (.aload_n 0, 1) := by decide +kernel
theorem dL_law_465 : decode cL_law 465 = .ok (.iload 4, 2) := by decide +kernel
theorem dL_law_467 : decode cL_law 467 = .ok (.iconst 2, 1) := by decide +kernel
theorem dL_law_468 : decode cL_law 468 = .ok (.iadd, 1) := by decide +kernel
theorem dL_law_469 : decode cL_law 469 = .ok (.iaload, 1) := by decide +kernel
theorem dL_law_470 : decode cL_law 470 = .ok (.aload_n 3, 1) := by decide +kernel
theorem dL_law_471 : decode cL_law 471 = .ok (.invokestatic 104, 3) := by decide +kernel
theorem dL_law_474 : decode cL_law 474 = .ok (.istore 5, 2) := by decide +kernel
theorem dL_law_476 : decode cL_law 476 = .ok (.aload_n 2, 1) := by decide +kernel
theorem dL_law_477 : decode cL_law 477 = .ok (.aload_n 0, 1) := by decide +kernel
theorem dL_law_478 : decode cL_law 478 = .ok (.iload 4, 2) := by decide +kernel
theorem dL_law_480 : decode cL_law 480 = .ok (.iconst 1, 1) := by decide +kernel
theorem dL_law_481 : decode cL_law 481 = .ok (.iadd, 1) := by decide +kernel
theorem dL_law_482 : decode cL_law 482 = .ok (.iaload, 1) := by decide +kernel
theorem dL_law_483 : decode cL_law 483 = .ok (.aload_n 0, 1) := by decide +kernel
theorem dL_law_484 : decode cL_law 484 = .ok (.iload 4, 2) := by decide +kernel
theorem dL_law_486 : decode cL_law 486 = .ok (.iconst 2, 1) := by decide +kernel
theorem dL_law_487 : decode cL_law 487 = .ok (.iadd, 1) := by decide +kernel
theorem dL_law_488 : decode cL_law 488 = .ok (.iaload, 1) := by decide +kernel
theorem dL_law_489 : decode cL_law 489 = .ok (.invokevirtual 106, 3) := by decide +kernel
theorem dL_law_492 : decode cL_law 492 = .ok (.istore 6, 2) := by decide +kernel
theorem dL_law_494 : decode cL_law 494 = .ok (.aload_n 2, 1) := by decide +kernel
theorem dL_law_495 : decode cL_law 495 = .ok (.invokevirtual 88, 3) := by decide +kernel
theorem dL_law_498 : decode cL_law 498 = .ok (.iload 5, 2) := by decide +kernel
theorem dL_law_500 : decode cL_law 500 = .ok (.if_icmp .eq 5, 3) := by decide +kernel
theorem dL_law_503 : decode cL_law 503 = .ok (.iconst 0, 1) := by decide +kernel
theorem dL_law_504 : decode cL_law 504 = .ok (.ireturn, 1) := by decide +kernel
theorem dL_law_505 : decode cL_law 505 = .ok (.iload 5, 2) := by decide +kernel
theorem dL_law_507 : decode cL_law 507 = .ok (.ifCond .ne 15, 3) := by decide +kernel
theorem dL_law_510 : decode cL_law 510 = .ok (.aload_n 3, 1) := by decide +kernel
theorem dL_law_511 : decode cL_law 511 = .ok (.iconst 0, 1) := by decide +kernel
theorem dL_law_512 : decode cL_law 512 = .ok (.laload, 1) := by decide +kernel
theorem dL_law_513 : decode cL_law 513 = .ok (.iload 6, 2) := by decide +kernel
theorem dL_law_515 : decode cL_law 515 = .ok (.i2l, 1) := by decide +kernel
theorem dL_law_516 : decode cL_law 516 = .ok (.lcmp, 1) := by decide +kernel
theorem dL_law_517 : decode cL_law 517 = .ok (.ifCond .eq 5, 3) := by decide +kernel
theorem dL_law_520 : decode cL_law 520 = .ok (.iconst 0, 1) := by decide +kernel
theorem dL_law_521 : decode cL_law 521 = .ok (.ireturn, 1) := by decide +kernel
theorem dL_law_522 : decode cL_law 522 = .ok (.goto 831, 3) := by decide +kernel
theorem dL_law_525 : decode cL_law 525 = .ok (.aload_n 1, 1) := by decide +kernel
theorem dL_law_526 : decode cL_law 526 = .ok (.aload_n 0, 1) := by decide +kernel
theorem dL_law_527 : decode cL_law 527 = .ok (.iload 4, 2) := by decide +kernel
theorem dL_law_529 : decode cL_law 529 = .ok (.iconst 1, 1) := by decide +kernel
theorem dL_law_530 : decode cL_law 530 = .ok (.iadd, 1) := by decide +kernel
theorem dL_law_531 : decode cL_law 531 = .ok (.iaload, 1) := by decide +kernel
theorem dL_law_532 : decode cL_law 532 = .ok (.aload_n 0, 1) := by decide +kernel
theorem dL_law_533 : decode cL_law 533 = .ok (.iload 4, 2) := by decide +kernel
theorem dL_law_535 : decode cL_law 535 = .ok (.iconst 2, 1) := by decide +kernel
theorem dL_law_536 : decode cL_law 536 = .ok (.iadd, 1) := by decide +kernel
theorem dL_law_537 : decode cL_law 537 = .ok (.iaload, 1) := by decide +kernel
theorem dL_law_538 : decode cL_law 538 = .ok (.aload_n 3, 1) := by decide +kernel
theorem dL_law_539 : decode cL_law 539 = .ok (.invokestatic 107, 3) := by decide +kernel
theorem dL_law_542 : decode cL_law 542 = .ok (.istore 5, 2) := by decide +kernel
theorem dL_law_544 : decode cL_law 544 = .ok (.aload_n 2, 1) := by decide +kernel
theorem dL_law_545 : decode cL_law 545 = .ok (.aload_n 0, 1) := by decide +kernel
theorem dL_law_546 : decode cL_law 546 = .ok (.iload 4, 2) := by decide +kernel
theorem dL_law_548 : decode cL_law 548 = .ok (.iconst 1, 1) := by decide +kernel
theorem dL_law_549 : decode cL_law 549 = .ok (.iadd, 1) := by decide +kernel
theorem dL_law_550 : decode cL_law 550 = .ok (.iaload, 1) := by decide +kernel
theorem dL_law_551 : decode cL_law 551 = .ok (.aload_n 0, 1) := by decide +kernel
theorem dL_law_552 : decode cL_law 552 = .ok (.iload 4, 2) := by decide +kernel
theorem dL_law_554 : decode cL_law 554 = .ok (.iconst 2, 1) := by decide +kernel
theorem dL_law_555 : decode cL_law 555 = .ok (.iadd, 1) := by decide +kernel
theorem dL_law_556 : decode cL_law 556 = .ok (.iaload, 1) := by decide +kernel
theorem dL_law_557 : decode cL_law 557 = .ok (.invokevirtual 109, 3) := by decide +kernel
theorem dL_law_560 : decode cL_law 560 = .ok (.istore 6, 2) := by decide +kernel
theorem dL_law_562 : decode cL_law 562 = .ok (.aload_n 2, 1) := by decide +kernel
theorem dL_law_563 : decode cL_law 563 = .ok (.invokevirtual 88, 3) := by decide +kernel
theorem dL_law_566 : decode cL_law 566 = .ok (.iload 5, 2) := by decide +kernel
theorem dL_law_568 : decode cL_law 568 = .ok (.if_icmp .eq 5, 3) := by decide +kernel
theorem dL_law_571 : decode cL_law 571 = .ok (.iconst 0, 1) := by decide +kernel
theorem dL_law_572 : decode cL_law 572 = .ok (.ireturn, 1) := by decide +kernel
theorem dL_law_573 : decode cL_law 573 = .ok (.iload 5, 2) := by decide +kernel
theorem dL_law_575 : decode cL_law 575 = .ok (.ifCond .ne 15, 3) := by decide +kernel
theorem dL_law_578 : decode cL_law 578 = .ok (.aload_n 3, 1) := by decide +kernel
theorem dL_law_579 : decode cL_law 579 = .ok (.iconst 0, 1) := by decide +kernel
theorem dL_law_580 : decode cL_law 580 = .ok (.laload, 1) := by decide +kernel
theorem dL_law_581 : decode cL_law 581 = .ok (.iload 6, 2) := by decide +kernel
theorem dL_law_583 : decode cL_law 583 = .ok (.i2l, 1) := by decide +kernel
theorem dL_law_584 : decode cL_law 584 = .ok (.lcmp, 1) := by decide +kernel
theorem dL_law_585 : decode cL_law 585 = .ok (.ifCond .eq 5, 3) := by decide +kernel
theorem dL_law_588 : decode cL_law 588 = .ok (.iconst 0, 1) := by decide +kernel
theorem dL_law_589 : decode cL_law 589 = .ok (.ireturn, 1) := by decide +kernel
theorem dL_law_590 : decode cL_law 590 = .ok (.goto 763, 3) := by decide +kernel
theorem dL_law_593 : decode cL_law 593 = .ok (.aload_n 1, 1) := by decide +kernel
theorem dL_law_594 : decode cL_law 594 = .ok (.aload_n 0, 1) := by decide +kernel
theorem dL_law_595 : decode cL_law 595 = .ok (.iload 4, 2) := by decide +kernel
theorem dL_law_597 : decode cL_law 597 = .ok (.iconst 1, 1) := by decide +kernel
theorem dL_law_598 : decode cL_law 598 = .ok (.iadd, 1) := by decide +kernel
theorem dL_law_599 : decode cL_law 599 = .ok (.iaload, 1) := by decide +kernel
theorem dL_law_600 : decode cL_law 600 = .ok (.aload_n 3, 1) := by decide +kernel
theorem dL_law_601 : decode cL_law 601 = .ok (.invokestatic 110, 3) := by decide +kernel
theorem dL_law_604 : decode cL_law 604 = .ok (.istore 5, 2) := by decide +kernel
theorem dL_law_606 : decode cL_law 606 = .ok (.aload_n 2, 1) := by decide +kernel
theorem dL_law_607 : decode cL_law 607 = .ok (.aload_n 0, 1) := by decide +kernel
theorem dL_law_608 : decode cL_law 608 = .ok (.iload 4, 2) := by decide +kernel
theorem dL_law_610 : decode cL_law 610 = .ok (.iconst 1, 1) := by decide +kernel
theorem dL_law_611 : decode cL_law 611 = .ok (.iadd, 1) := by decide +kernel
theorem dL_law_612 : decode cL_law 612 = .ok (.iaload, 1) := by decide +kernel
theorem dL_law_613 : decode cL_law 613 = .ok (.invokevirtual 112, 3) := by decide +kernel
theorem dL_law_616 : decode cL_law 616 = .ok (.istore 6, 2) := by decide +kernel
theorem dL_law_618 : decode cL_law 618 = .ok (.aload_n 2, 1) := by decide +kernel
theorem dL_law_619 : decode cL_law 619 = .ok (.invokevirtual 88, 3) := by decide +kernel
theorem dL_law_622 : decode cL_law 622 = .ok (.iload 5, 2) := by decide +kernel
theorem dL_law_624 : decode cL_law 624 = .ok (.if_icmp .eq 5, 3) := by decide +kernel
theorem dL_law_627 : decode cL_law 627 = .ok (.iconst 0, 1) := by decide +kernel
theorem dL_law_628 : decode cL_law 628 = .ok (.ireturn, 1) := by decide +kernel
theorem dL_law_629 : decode cL_law 629 = .ok (.iload 5, 2) := by decide +kernel
theorem dL_law_631 : decode cL_law 631 = .ok (.ifCond .ne 15, 3) := by decide +kernel
theorem dL_law_634 : decode cL_law 634 = .ok (.aload_n 3, 1) := by decide +kernel
theorem dL_law_635 : decode cL_law 635 = .ok (.iconst 0, 1) := by decide +kernel
theorem dL_law_636 : decode cL_law 636 = .ok (.laload, 1) := by decide +kernel
theorem dL_law_637 : decode cL_law 637 = .ok (.iload 6, 2) := by decide +kernel
theorem dL_law_639 : decode cL_law 639 = .ok (.i2l, 1) := by decide +kernel
theorem dL_law_640 : decode cL_law 640 = .ok (.lcmp, 1) := by decide +kernel
theorem dL_law_641 : decode cL_law 641 = .ok (.ifCond .eq 5, 3) := by decide +kernel
theorem dL_law_644 : decode cL_law 644 = .ok (.iconst 0, 1) := by decide +kernel
theorem dL_law_645 : decode cL_law 645 = .ok (.ireturn, 1) := by decide +kernel
theorem dL_law_646 : decode cL_law 646 = .ok (.goto 707, 3) := by decide +kernel
theorem dL_law_649 : decode cL_law 649 = .ok (.aload_n 1, 1) := by decide +kernel
theorem dL_law_650 : decode cL_law 650 = .ok (.aload_n 0, 1) := by decide +kernel
theorem dL_law_651 : decode cL_law 651 = .ok (.iload 4, 2) := by decide +kernel
theorem dL_law_653 : decode cL_law 653 = .ok (.iconst 1, 1) := by decide +kernel
theorem dL_law_654 : decode cL_law 654 = .ok (.iadd, 1) := by decide +kernel
theorem dL_law_655 : decode cL_law 655 = .ok (.iaload, 1) := by decide +kernel
theorem dL_law_656 : decode cL_law 656 = .ok (.aload_n 0, 1) := by decide +kernel
theorem dL_law_657 : decode cL_law 657 = .ok (.iload 4, 2) := by decide +kernel
theorem dL_law_659 : decode cL_law 659 = .ok (.iconst 2, 1) := by decide +kernel
theorem dL_law_660 : decode cL_law 660 = .ok (.iadd, 1) := by decide +kernel
theorem dL_law_661 : decode cL_law 661 = .ok (.iaload, 1) := by decide +kernel
theorem dL_law_662 : decode cL_law 662 = .ok (.aload_n 0, 1) := by decide +kernel
theorem dL_law_663 : decode cL_law 663 = .ok (.iload 4, 2) := by decide +kernel
theorem dL_law_665 : decode cL_law 665 = .ok (.iconst 3, 1) := by decide +kernel
theorem dL_law_666 : decode cL_law 666 = .ok (.iadd, 1) := by decide +kernel
theorem dL_law_667 : decode cL_law 667 = .ok (.iaload, 1) := by decide +kernel
theorem dL_law_668 : decode cL_law 668 = .ok (.aload_n 0, 1) := by decide +kernel
theorem dL_law_669 : decode cL_law 669 = .ok (.iload 4, 2) := by decide +kernel
theorem dL_law_671 : decode cL_law 671 = .ok (.iconst 4, 1) := by decide +kernel
theorem dL_law_672 : decode cL_law 672 = .ok (.iadd, 1) := by decide +kernel
theorem dL_law_673 : decode cL_law 673 = .ok (.iaload, 1) := by decide +kernel
theorem dL_law_674 : decode cL_law 674 = .ok (.aload_n 3, 1) := by decide +kernel
theorem dL_law_675 : decode cL_law 675 = .ok (.invokestatic 113, 3) := by decide +kernel
theorem dL_law_678 : decode cL_law 678 = .ok (.istore 5, 2) := by decide +kernel
theorem dL_law_680 : decode cL_law 680 = .ok (.aload_n 2, 1) := by decide +kernel
theorem dL_law_681 : decode cL_law 681 = .ok (.aload_n 0, 1) := by decide +kernel
theorem dL_law_682 : decode cL_law 682 = .ok (.iload 4, 2) := by decide +kernel
theorem dL_law_684 : decode cL_law 684 = .ok (.iconst 1, 1) := by decide +kernel
theorem dL_law_685 : decode cL_law 685 = .ok (.iadd, 1) := by decide +kernel
theorem dL_law_686 : decode cL_law 686 = .ok (.iaload, 1) := by decide +kernel
theorem dL_law_687 : decode cL_law 687 = .ok (.aload_n 0, 1) := by decide +kernel
theorem dL_law_688 : decode cL_law 688 = .ok (.iload 4, 2) := by decide +kernel
theorem dL_law_690 : decode cL_law 690 = .ok (.iconst 2, 1) := by decide +kernel
theorem dL_law_691 : decode cL_law 691 = .ok (.iadd, 1) := by decide +kernel
theorem dL_law_692 : decode cL_law 692 = .ok (.iaload, 1) := by decide +kernel
theorem dL_law_693 : decode cL_law 693 = .ok (.aload_n 0, 1) := by decide +kernel
theorem dL_law_694 : decode cL_law 694 = .ok (.iload 4, 2) := by decide +kernel
theorem dL_law_696 : decode cL_law 696 = .ok (.iconst 3, 1) := by decide +kernel
theorem dL_law_697 : decode cL_law 697 = .ok (.iadd, 1) := by decide +kernel
theorem dL_law_698 : decode cL_law 698 = .ok (.iaload, 1) := by decide +kernel
theorem dL_law_699 : decode cL_law 699 = .ok (.aload_n 0, 1) := by decide +kernel
theorem dL_law_700 : decode cL_law 700 = .ok (.iload 4, 2) := by decide +kernel
theorem dL_law_702 : decode cL_law 702 = .ok (.iconst 4, 1) := by decide +kernel
theorem dL_law_703 : decode cL_law 703 = .ok (.iadd, 1) := by decide +kernel
theorem dL_law_704 : decode cL_law 704 = .ok (.iaload, 1) := by decide +kernel
theorem dL_law_705 : decode cL_law 705 = .ok (.invokevirtual 116, 3) := by decide +kernel
theorem dL_law_708 : decode cL_law 708 = .ok (.istore 6, 2) := by decide +kernel
theorem dL_law_710 : decode cL_law 710 = .ok (.aload_n 2, 1) := by decide +kernel
theorem dL_law_711 : decode cL_law 711 = .ok (.invokevirtual 88, 3) := by decide +kernel
theorem dL_law_714 : decode cL_law 714 = .ok (.iload 5, 2) := by decide +kernel
theorem dL_law_716 : decode cL_law 716 = .ok (.if_icmp .eq 5, 3) := by decide +kernel
theorem dL_law_719 : decode cL_law 719 = .ok (.iconst 0, 1) := by decide +kernel
theorem dL_law_720 : decode cL_law 720 = .ok (.ireturn, 1) := by decide +kernel
theorem dL_law_721 : decode cL_law 721 = .ok (.iload 5, 2) := by decide +kernel
theorem dL_law_723 : decode cL_law 723 = .ok (.ifCond .ne 15, 3) := by decide +kernel
theorem dL_law_726 : decode cL_law 726 = .ok (.aload_n 3, 1) := by decide +kernel
theorem dL_law_727 : decode cL_law 727 = .ok (.iconst 0, 1) := by decide +kernel
theorem dL_law_728 : decode cL_law 728 = .ok (.laload, 1) := by decide +kernel
theorem dL_law_729 : decode cL_law 729 = .ok (.iload 6, 2) := by decide +kernel
theorem dL_law_731 : decode cL_law 731 = .ok (.i2l, 1) := by decide +kernel
theorem dL_law_732 : decode cL_law 732 = .ok (.lcmp, 1) := by decide +kernel
theorem dL_law_733 : decode cL_law 733 = .ok (.ifCond .eq 5, 3) := by decide +kernel
theorem dL_law_736 : decode cL_law 736 = .ok (.iconst 0, 1) := by decide +kernel
theorem dL_law_737 : decode cL_law 737 = .ok (.ireturn, 1) := by decide +kernel
theorem dL_law_738 : decode cL_law 738 = .ok (.goto 615, 3) := by decide +kernel
theorem dL_law_741 : decode cL_law 741 = .ok (.aload_n 1, 1) := by decide +kernel
theorem dL_law_742 : decode cL_law 742 = .ok (.aload_n 0, 1) := by decide +kernel
theorem dL_law_743 : decode cL_law 743 = .ok (.iload 4, 2) := by decide +kernel
theorem dL_law_745 : decode cL_law 745 = .ok (.iconst 1, 1) := by decide +kernel
theorem dL_law_746 : decode cL_law 746 = .ok (.iadd, 1) := by decide +kernel
theorem dL_law_747 : decode cL_law 747 = .ok (.iaload, 1) := by decide +kernel
theorem dL_law_748 : decode cL_law 748 = .ok (.aload_n 0, 1) := by decide +kernel
theorem dL_law_749 : decode cL_law 749 = .ok (.iload 4, 2) := by decide +kernel
theorem dL_law_751 : decode cL_law 751 = .ok (.iconst 2, 1) := by decide +kernel
theorem dL_law_752 : decode cL_law 752 = .ok (.iadd, 1) := by decide +kernel
theorem dL_law_753 : decode cL_law 753 = .ok (.iaload, 1) := by decide +kernel
theorem dL_law_754 : decode cL_law 754 = .ok (.aload_n 3, 1) := by decide +kernel
theorem dL_law_755 : decode cL_law 755 = .ok (.invokestatic 117, 3) := by decide +kernel
theorem dL_law_758 : decode cL_law 758 = .ok (.istore 5, 2) := by decide +kernel
theorem dL_law_760 : decode cL_law 760 = .ok (.aload_n 2, 1) := by decide +kernel
theorem dL_law_761 : decode cL_law 761 = .ok (.aload_n 0, 1) := by decide +kernel
theorem dL_law_762 : decode cL_law 762 = .ok (.iload 4, 2) := by decide +kernel
theorem dL_law_764 : decode cL_law 764 = .ok (.iconst 1, 1) := by decide +kernel
theorem dL_law_765 : decode cL_law 765 = .ok (.iadd, 1) := by decide +kernel
theorem dL_law_766 : decode cL_law 766 = .ok (.iaload, 1) := by decide +kernel
theorem dL_law_767 : decode cL_law 767 = .ok (.aload_n 0, 1) := by decide +kernel
theorem dL_law_768 : decode cL_law 768 = .ok (.iload 4, 2) := by decide +kernel
theorem dL_law_770 : decode cL_law 770 = .ok (.iconst 2, 1) := by decide +kernel
theorem dL_law_771 : decode cL_law 771 = .ok (.iadd, 1) := by decide +kernel
theorem dL_law_772 : decode cL_law 772 = .ok (.iaload, 1) := by decide +kernel
theorem dL_law_773 : decode cL_law 773 = .ok (.invokevirtual 119, 3) := by decide +kernel
theorem dL_law_776 : decode cL_law 776 = .ok (.istore 6, 2) := by decide +kernel
theorem dL_law_778 : decode cL_law 778 = .ok (.aload_n 2, 1) := by decide +kernel
theorem dL_law_779 : decode cL_law 779 = .ok (.invokevirtual 88, 3) := by decide +kernel
theorem dL_law_782 : decode cL_law 782 = .ok (.iload 5, 2) := by decide +kernel
theorem dL_law_784 : decode cL_law 784 = .ok (.if_icmp .eq 5, 3) := by decide +kernel
theorem dL_law_787 : decode cL_law 787 = .ok (.iconst 0, 1) := by decide +kernel
theorem dL_law_788 : decode cL_law 788 = .ok (.ireturn, 1) := by decide +kernel
theorem dL_law_789 : decode cL_law 789 = .ok (.iload 5, 2) := by decide +kernel
theorem dL_law_791 : decode cL_law 791 = .ok (.ifCond .ne 15, 3) := by decide +kernel
theorem dL_law_794 : decode cL_law 794 = .ok (.aload_n 3, 1) := by decide +kernel
theorem dL_law_795 : decode cL_law 795 = .ok (.iconst 0, 1) := by decide +kernel
theorem dL_law_796 : decode cL_law 796 = .ok (.laload, 1) := by decide +kernel
theorem dL_law_797 : decode cL_law 797 = .ok (.iload 6, 2) := by decide +kernel
theorem dL_law_799 : decode cL_law 799 = .ok (.i2l, 1) := by decide +kernel
theorem dL_law_800 : decode cL_law 800 = .ok (.lcmp, 1) := by decide +kernel
theorem dL_law_801 : decode cL_law 801 = .ok (.ifCond .eq 5, 3) := by decide +kernel
theorem dL_law_804 : decode cL_law 804 = .ok (.iconst 0, 1) := by decide +kernel
theorem dL_law_805 : decode cL_law 805 = .ok (.ireturn, 1) := by decide +kernel
theorem dL_law_806 : decode cL_law 806 = .ok (.goto 547, 3) := by decide +kernel
theorem dL_law_809 : decode cL_law 809 = .ok (.aload_n 1, 1) := by decide +kernel
theorem dL_law_810 : decode cL_law 810 = .ok (.aload_n 0, 1) := by decide +kernel
theorem dL_law_811 : decode cL_law 811 = .ok (.iload 4, 2) := by decide +kernel
theorem dL_law_813 : decode cL_law 813 = .ok (.iconst 1, 1) := by decide +kernel
theorem dL_law_814 : decode cL_law 814 = .ok (.iadd, 1) := by decide +kernel
theorem dL_law_815 : decode cL_law 815 = .ok (.iaload, 1) := by decide +kernel
theorem dL_law_816 : decode cL_law 816 = .ok (.aload_n 0, 1) := by decide +kernel
theorem dL_law_817 : decode cL_law 817 = .ok (.iload 4, 2) := by decide +kernel
theorem dL_law_819 : decode cL_law 819 = .ok (.iconst 2, 1) := by decide +kernel
theorem dL_law_820 : decode cL_law 820 = .ok (.iadd, 1) := by decide +kernel
theorem dL_law_821 : decode cL_law 821 = .ok (.iaload, 1) := by decide +kernel
theorem dL_law_822 : decode cL_law 822 = .ok (.aload_n 0, 1) := by decide +kernel
theorem dL_law_823 : decode cL_law 823 = .ok (.iload 4, 2) := by decide +kernel
theorem dL_law_825 : decode cL_law 825 = .ok (.iconst 3, 1) := by decide +kernel
theorem dL_law_826 : decode cL_law 826 = .ok (.iadd, 1) := by decide +kernel
theorem dL_law_827 : decode cL_law 827 = .ok (.iaload, 1) := by decide +kernel
theorem dL_law_828 : decode cL_law 828 = .ok (.aload_n 3, 1) := by decide +kernel
theorem dL_law_829 : decode cL_law 829 = .ok (.invokestatic 120, 3) := by decide +kernel
theorem dL_law_832 : decode cL_law 832 = .ok (.istore 5, 2) := by decide +kernel
theorem dL_law_834 : decode cL_law 834 = .ok (.aload_n 2, 1) := by decide +kernel
theorem dL_law_835 : decode cL_law 835 = .ok (.aload_n 0, 1) := by decide +kernel
theorem dL_law_836 : decode cL_law 836 = .ok (.iload 4, 2) := by decide +kernel
theorem dL_law_838 : decode cL_law 838 = .ok (.iconst 1, 1) := by decide +kernel
theorem dL_law_839 : decode cL_law 839 = .ok (.iadd, 1) := by decide +kernel
theorem dL_law_840 : decode cL_law 840 = .ok (.iaload, 1) := by decide +kernel
theorem dL_law_841 : decode cL_law 841 = .ok (.aload_n 0, 1) := by decide +kernel
theorem dL_law_842 : decode cL_law 842 = .ok (.iload 4, 2) := by decide +kernel
theorem dL_law_844 : decode cL_law 844 = .ok (.iconst 2, 1) := by decide +kernel
theorem dL_law_845 : decode cL_law 845 = .ok (.iadd, 1) := by decide +kernel
theorem dL_law_846 : decode cL_law 846 = .ok (.iaload, 1) := by decide +kernel
theorem dL_law_847 : decode cL_law 847 = .ok (.aload_n 0, 1) := by decide +kernel
theorem dL_law_848 : decode cL_law 848 = .ok (.iload 4, 2) := by decide +kernel
theorem dL_law_850 : decode cL_law 850 = .ok (.iconst 3, 1) := by decide +kernel
theorem dL_law_851 : decode cL_law 851 = .ok (.iadd, 1) := by decide +kernel
theorem dL_law_852 : decode cL_law 852 = .ok (.iaload, 1) := by decide +kernel
theorem dL_law_853 : decode cL_law 853 = .ok (.invokevirtual 123, 3) := by decide +kernel
theorem dL_law_856 : decode cL_law 856 = .ok (.istore 6, 2) := by decide +kernel
theorem dL_law_858 : decode cL_law 858 = .ok (.aload_n 2, 1) := by decide +kernel
theorem dL_law_859 : decode cL_law 859 = .ok (.invokevirtual 88, 3) := by decide +kernel
theorem dL_law_862 : decode cL_law 862 = .ok (.iload 5, 2) := by decide +kernel
theorem dL_law_864 : decode cL_law 864 = .ok (.if_icmp .eq 5, 3) := by decide +kernel
theorem dL_law_867 : decode cL_law 867 = .ok (.iconst 0, 1) := by decide +kernel
theorem dL_law_868 : decode cL_law 868 = .ok (.ireturn, 1) := by decide +kernel
theorem dL_law_869 : decode cL_law 869 = .ok (.iload 5, 2) := by decide +kernel
theorem dL_law_871 : decode cL_law 871 = .ok (.ifCond .ne 15, 3) := by decide +kernel
theorem dL_law_874 : decode cL_law 874 = .ok (.aload_n 3, 1) := by decide +kernel
theorem dL_law_875 : decode cL_law 875 = .ok (.iconst 0, 1) := by decide +kernel
theorem dL_law_876 : decode cL_law 876 = .ok (.laload, 1) := by decide +kernel
theorem dL_law_877 : decode cL_law 877 = .ok (.iload 6, 2) := by decide +kernel
theorem dL_law_879 : decode cL_law 879 = .ok (.i2l, 1) := by decide +kernel
theorem dL_law_880 : decode cL_law 880 = .ok (.lcmp, 1) := by decide +kernel
theorem dL_law_881 : decode cL_law 881 = .ok (.ifCond .eq 5, 3) := by decide +kernel
theorem dL_law_884 : decode cL_law 884 = .ok (.iconst 0, 1) := by decide +kernel
theorem dL_law_885 : decode cL_law 885 = .ok (.ireturn, 1) := by decide +kernel
theorem dL_law_886 : decode cL_law 886 = .ok (.goto 467, 3) := by decide +kernel
theorem dL_law_889 : decode cL_law 889 = .ok (.aload_n 1, 1) := by decide +kernel
theorem dL_law_890 : decode cL_law 890 = .ok (.aload_n 0, 1) := by decide +kernel
theorem dL_law_891 : decode cL_law 891 = .ok (.iload 4, 2) := by decide +kernel
theorem dL_law_893 : decode cL_law 893 = .ok (.iconst 1, 1) := by decide +kernel
theorem dL_law_894 : decode cL_law 894 = .ok (.iadd, 1) := by decide +kernel
theorem dL_law_895 : decode cL_law 895 = .ok (.iaload, 1) := by decide +kernel
theorem dL_law_896 : decode cL_law 896 = .ok (.aload_n 0, 1) := by decide +kernel
theorem dL_law_897 : decode cL_law 897 = .ok (.iload 4, 2) := by decide +kernel
theorem dL_law_899 : decode cL_law 899 = .ok (.iconst 2, 1) := by decide +kernel
theorem dL_law_900 : decode cL_law 900 = .ok (.iadd, 1) := by decide +kernel
theorem dL_law_901 : decode cL_law 901 = .ok (.iaload, 1) := by decide +kernel
theorem dL_law_902 : decode cL_law 902 = .ok (.aload_n 0, 1) := by decide +kernel
theorem dL_law_903 : decode cL_law 903 = .ok (.iload 4, 2) := by decide +kernel
theorem dL_law_905 : decode cL_law 905 = .ok (.iconst 3, 1) := by decide +kernel
theorem dL_law_906 : decode cL_law 906 = .ok (.iadd, 1) := by decide +kernel
theorem dL_law_907 : decode cL_law 907 = .ok (.iaload, 1) := by decide +kernel
theorem dL_law_908 : decode cL_law 908 = .ok (.aload_n 3, 1) := by decide +kernel
theorem dL_law_909 : decode cL_law 909 = .ok (.invokestatic 124, 3) := by decide +kernel
theorem dL_law_912 : decode cL_law 912 = .ok (.istore 5, 2) := by decide +kernel
theorem dL_law_914 : decode cL_law 914 = .ok (.aload_n 2, 1) := by decide +kernel
theorem dL_law_915 : decode cL_law 915 = .ok (.aload_n 0, 1) := by decide +kernel
theorem dL_law_916 : decode cL_law 916 = .ok (.iload 4, 2) := by decide +kernel
theorem dL_law_918 : decode cL_law 918 = .ok (.iconst 1, 1) := by decide +kernel
theorem dL_law_919 : decode cL_law 919 = .ok (.iadd, 1) := by decide +kernel
theorem dL_law_920 : decode cL_law 920 = .ok (.iaload, 1) := by decide +kernel
theorem dL_law_921 : decode cL_law 921 = .ok (.aload_n 0, 1) := by decide +kernel
theorem dL_law_922 : decode cL_law 922 = .ok (.iload 4, 2) := by decide +kernel
theorem dL_law_924 : decode cL_law 924 = .ok (.iconst 2, 1) := by decide +kernel
theorem dL_law_925 : decode cL_law 925 = .ok (.iadd, 1) := by decide +kernel
theorem dL_law_926 : decode cL_law 926 = .ok (.iaload, 1) := by decide +kernel
theorem dL_law_927 : decode cL_law 927 = .ok (.aload_n 0, 1) := by decide +kernel
theorem dL_law_928 : decode cL_law 928 = .ok (.iload 4, 2) := by decide +kernel
theorem dL_law_930 : decode cL_law 930 = .ok (.iconst 3, 1) := by decide +kernel
theorem dL_law_931 : decode cL_law 931 = .ok (.iadd, 1) := by decide +kernel
theorem dL_law_932 : decode cL_law 932 = .ok (.iaload, 1) := by decide +kernel
theorem dL_law_933 : decode cL_law 933 = .ok (.invokevirtual 126, 3) := by decide +kernel
theorem dL_law_936 : decode cL_law 936 = .ok (.istore 6, 2) := by decide +kernel
theorem dL_law_938 : decode cL_law 938 = .ok (.aload_n 2, 1) := by decide +kernel
theorem dL_law_939 : decode cL_law 939 = .ok (.invokevirtual 88, 3) := by decide +kernel
theorem dL_law_942 : decode cL_law 942 = .ok (.iload 5, 2) := by decide +kernel
theorem dL_law_944 : decode cL_law 944 = .ok (.if_icmp .eq 5, 3) := by decide +kernel
theorem dL_law_947 : decode cL_law 947 = .ok (.iconst 0, 1) := by decide +kernel
theorem dL_law_948 : decode cL_law 948 = .ok (.ireturn, 1) := by decide +kernel
theorem dL_law_949 : decode cL_law 949 = .ok (.iload 5, 2) := by decide +kernel
theorem dL_law_951 : decode cL_law 951 = .ok (.ifCond .ne 15, 3) := by decide +kernel
theorem dL_law_954 : decode cL_law 954 = .ok (.aload_n 3, 1) := by decide +kernel
theorem dL_law_955 : decode cL_law 955 = .ok (.iconst 0, 1) := by decide +kernel
theorem dL_law_956 : decode cL_law 956 = .ok (.laload, 1) := by decide +kernel
theorem dL_law_957 : decode cL_law 957 = .ok (.iload 6, 2) := by decide +kernel
theorem dL_law_959 : decode cL_law 959 = .ok (.i2l, 1) := by decide +kernel
theorem dL_law_960 : decode cL_law 960 = .ok (.lcmp, 1) := by decide +kernel
theorem dL_law_961 : decode cL_law 961 = .ok (.ifCond .eq 5, 3) := by decide +kernel
theorem dL_law_964 : decode cL_law 964 = .ok (.iconst 0, 1) := by decide +kernel
theorem dL_law_965 : decode cL_law 965 = .ok (.ireturn, 1) := by decide +kernel
theorem dL_law_966 : decode cL_law 966 = .ok (.goto 387, 3) := by decide +kernel
theorem dL_law_969 : decode cL_law 969 = .ok (.aload_n 1, 1) := by decide +kernel
theorem dL_law_970 : decode cL_law 970 = .ok (.aload_n 0, 1) := by decide +kernel
theorem dL_law_971 : decode cL_law 971 = .ok (.iload 4, 2) := by decide +kernel
theorem dL_law_973 : decode cL_law 973 = .ok (.iconst 1, 1) := by decide +kernel
theorem dL_law_974 : decode cL_law 974 = .ok (.iadd, 1) := by decide +kernel
theorem dL_law_975 : decode cL_law 975 = .ok (.iaload, 1) := by decide +kernel
theorem dL_law_976 : decode cL_law 976 = .ok (.aload_n 0, 1) := by decide +kernel
theorem dL_law_977 : decode cL_law 977 = .ok (.iload 4, 2) := by decide +kernel
theorem dL_law_979 : decode cL_law 979 = .ok (.iconst 2, 1) := by decide +kernel
theorem dL_law_980 : decode cL_law 980 = .ok (.iadd, 1) := by decide +kernel
theorem dL_law_981 : decode cL_law 981 = .ok (.iaload, 1) := by decide +kernel
theorem dL_law_982 : decode cL_law 982 = .ok (.aload_n 0, 1) := by decide +kernel
theorem dL_law_983 : decode cL_law 983 = .ok (.iload 4, 2) := by decide +kernel
theorem dL_law_985 : decode cL_law 985 = .ok (.iconst 3, 1) := by decide +kernel
theorem dL_law_986 : decode cL_law 986 = .ok (.iadd, 1) := by decide +kernel
theorem dL_law_987 : decode cL_law 987 = .ok (.iaload, 1) := by decide +kernel
theorem dL_law_988 : decode cL_law 988 = .ok (.aload_n 3, 1) := by decide +kernel
theorem dL_law_989 : decode cL_law 989 = .ok (.invokestatic 127, 3) := by decide +kernel
theorem dL_law_992 : decode cL_law 992 = .ok (.istore 5, 2) := by decide +kernel
theorem dL_law_994 : decode cL_law 994 = .ok (.aload_n 2, 1) := by decide +kernel
theorem dL_law_995 : decode cL_law 995 = .ok (.aload_n 0, 1) := by decide +kernel
theorem dL_law_996 : decode cL_law 996 = .ok (.iload 4, 2) := by decide +kernel
theorem dL_law_998 : decode cL_law 998 = .ok (.iconst 1, 1) := by decide +kernel
theorem dL_law_999 : decode cL_law 999 = .ok (.iadd, 1) := by decide +kernel
theorem dL_law_1000 : decode cL_law 1000 = .ok (.iaload, 1) := by decide +kernel
theorem dL_law_1001 : decode cL_law 1001 = .ok (.aload_n 0, 1) := by decide +kernel
theorem dL_law_1002 : decode cL_law 1002 = .ok (.iload 4, 2) := by decide +kernel
theorem dL_law_1004 : decode cL_law 1004 = .ok (.iconst 2, 1) := by decide +kernel
theorem dL_law_1005 : decode cL_law 1005 = .ok (.iadd, 1) := by decide +kernel
theorem dL_law_1006 : decode cL_law 1006 = .ok (.iaload, 1) := by decide +kernel
theorem dL_law_1007 : decode cL_law 1007 = .ok (.aload_n 0, 1) := by decide +kernel
theorem dL_law_1008 : decode cL_law 1008 = .ok (.iload 4, 2) := by decide +kernel
theorem dL_law_1010 : decode cL_law 1010 = .ok (.iconst 3, 1) := by decide +kernel
theorem dL_law_1011 : decode cL_law 1011 = .ok (.iadd, 1) := by decide +kernel
theorem dL_law_1012 : decode cL_law 1012 = .ok (.iaload, 1) := by decide +kernel
theorem dL_law_1013 : decode cL_law 1013 = .ok (.invokevirtual 129, 3) := by decide +kernel
theorem dL_law_1016 : decode cL_law 1016 = .ok (.istore 6, 2) := by decide +kernel
theorem dL_law_1018 : decode cL_law 1018 = .ok (.aload_n 2, 1) := by decide +kernel
theorem dL_law_1019 : decode cL_law 1019 = .ok (.invokevirtual 88, 3) := by decide +kernel
theorem dL_law_1022 : decode cL_law 1022 = .ok (.iload 5, 2) := by decide +kernel
theorem dL_law_1024 : decode cL_law 1024 = .ok (.if_icmp .eq 5, 3) := by decide +kernel
theorem dL_law_1027 : decode cL_law 1027 = .ok (.iconst 0, 1) := by decide +kernel
theorem dL_law_1028 : decode cL_law 1028 = .ok (.ireturn, 1) := by decide +kernel
theorem dL_law_1029 : decode cL_law 1029 = .ok (.iload 5, 2) := by decide +kernel
theorem dL_law_1031 : decode cL_law 1031 = .ok (.ifCond .ne 15, 3) := by decide +kernel
theorem dL_law_1034 : decode cL_law 1034 = .ok (.aload_n 3, 1) := by decide +kernel
theorem dL_law_1035 : decode cL_law 1035 = .ok (.iconst 0, 1) := by decide +kernel
theorem dL_law_1036 : decode cL_law 1036 = .ok (.laload, 1) := by decide +kernel
theorem dL_law_1037 : decode cL_law 1037 = .ok (.iload 6, 2) := by decide +kernel
theorem dL_law_1039 : decode cL_law 1039 = .ok (.i2l, 1) := by decide +kernel
theorem dL_law_1040 : decode cL_law 1040 = .ok (.lcmp, 1) := by decide +kernel
theorem dL_law_1041 : decode cL_law 1041 = .ok (.ifCond .eq 5, 3) := by decide +kernel
theorem dL_law_1044 : decode cL_law 1044 = .ok (.iconst 0, 1) := by decide +kernel
theorem dL_law_1045 : decode cL_law 1045 = .ok (.ireturn, 1) := by decide +kernel
theorem dL_law_1046 : decode cL_law 1046 = .ok (.goto 307, 3) := by decide +kernel
theorem dL_law_1049 : decode cL_law 1049 = .ok (.aload_n 1, 1) := by decide +kernel
theorem dL_law_1050 : decode cL_law 1050 = .ok (.aload_n 0, 1) := by decide +kernel
theorem dL_law_1051 : decode cL_law 1051 = .ok (.iload 4, 2) := by decide +kernel
theorem dL_law_1053 : decode cL_law 1053 = .ok (.iconst 1, 1) := by decide +kernel
theorem dL_law_1054 : decode cL_law 1054 = .ok (.iadd, 1) := by decide +kernel
theorem dL_law_1055 : decode cL_law 1055 = .ok (.iaload, 1) := by decide +kernel
theorem dL_law_1056 : decode cL_law 1056 = .ok (.aload_n 0, 1) := by decide +kernel
theorem dL_law_1057 : decode cL_law 1057 = .ok (.iload 4, 2) := by decide +kernel
theorem dL_law_1059 : decode cL_law 1059 = .ok (.iconst 2, 1) := by decide +kernel
theorem dL_law_1060 : decode cL_law 1060 = .ok (.iadd, 1) := by decide +kernel
theorem dL_law_1061 : decode cL_law 1061 = .ok (.iaload, 1) := by decide +kernel
theorem dL_law_1062 : decode cL_law 1062 = .ok (.aload_n 3, 1) := by decide +kernel
theorem dL_law_1063 : decode cL_law 1063 = .ok (.invokestatic 130, 3) := by decide +kernel
theorem dL_law_1066 : decode cL_law 1066 = .ok (.istore 5, 2) := by decide +kernel
theorem dL_law_1068 : decode cL_law 1068 = .ok (.aload_n 2, 1) := by decide +kernel
theorem dL_law_1069 : decode cL_law 1069 = .ok (.aload_n 0, 1) := by decide +kernel
theorem dL_law_1070 : decode cL_law 1070 = .ok (.iload 4, 2) := by decide +kernel
theorem dL_law_1072 : decode cL_law 1072 = .ok (.iconst 1, 1) := by decide +kernel
theorem dL_law_1073 : decode cL_law 1073 = .ok (.iadd, 1) := by decide +kernel
theorem dL_law_1074 : decode cL_law 1074 = .ok (.iaload, 1) := by decide +kernel
theorem dL_law_1075 : decode cL_law 1075 = .ok (.aload_n 0, 1) := by decide +kernel
theorem dL_law_1076 : decode cL_law 1076 = .ok (.iload 4, 2) := by decide +kernel
theorem dL_law_1078 : decode cL_law 1078 = .ok (.iconst 2, 1) := by decide +kernel
theorem dL_law_1079 : decode cL_law 1079 = .ok (.iadd, 1) := by decide +kernel
theorem dL_law_1080 : decode cL_law 1080 = .ok (.iaload, 1) := by decide +kernel
theorem dL_law_1081 : decode cL_law 1081 = .ok (.invokevirtual 132, 3) := by decide +kernel
theorem dL_law_1084 : decode cL_law 1084 = .ok (.istore 6, 2) := by decide +kernel
theorem dL_law_1086 : decode cL_law 1086 = .ok (.aload_n 2, 1) := by decide +kernel
theorem dL_law_1087 : decode cL_law 1087 = .ok (.invokevirtual 88, 3) := by decide +kernel
theorem dL_law_1090 : decode cL_law 1090 = .ok (.iload 5, 2) := by decide +kernel
theorem dL_law_1092 : decode cL_law 1092 = .ok (.if_icmp .eq 5, 3) := by decide +kernel
theorem dL_law_1095 : decode cL_law 1095 = .ok (.iconst 0, 1) := by decide +kernel
theorem dL_law_1096 : decode cL_law 1096 = .ok (.ireturn, 1) := by decide +kernel
theorem dL_law_1097 : decode cL_law 1097 = .ok (.iload 5, 2) := by decide +kernel
theorem dL_law_1099 : decode cL_law 1099 = .ok (.ifCond .ne 15, 3) := by decide +kernel
theorem dL_law_1102 : decode cL_law 1102 = .ok (.aload_n 3, 1) := by decide +kernel
theorem dL_law_1103 : decode cL_law 1103 = .ok (.iconst 0, 1) := by decide +kernel
theorem dL_law_1104 : decode cL_law 1104 = .ok (.laload, 1) := by decide +kernel
theorem dL_law_1105 : decode cL_law 1105 = .ok (.iload 6, 2) := by decide +kernel
theorem dL_law_1107 : decode cL_law 1107 = .ok (.i2l, 1) := by decide +kernel
theorem dL_law_1108 : decode cL_law 1108 = .ok (.lcmp, 1) := by decide +kernel
theorem dL_law_1109 : decode cL_law 1109 = .ok (.ifCond .eq 5, 3) := by decide +kernel
theorem dL_law_1112 : decode cL_law 1112 = .ok (.iconst 0, 1) := by decide +kernel
theorem dL_law_1113 : decode cL_law 1113 = .ok (.ireturn, 1) := by decide +kernel
theorem dL_law_1114 : decode cL_law 1114 = .ok (.goto 239, 3) := by decide +kernel
theorem dL_law_1117 : decode cL_law 1117 = .ok (.aload_n 1, 1) := by decide +kernel
theorem dL_law_1118 : decode cL_law 1118 = .ok (.aload_n 0, 1) := by decide +kernel
theorem dL_law_1119 : decode cL_law 1119 = .ok (.iload 4, 2) := by decide +kernel
theorem dL_law_1121 : decode cL_law 1121 = .ok (.iconst 1, 1) := by decide +kernel
theorem dL_law_1122 : decode cL_law 1122 = .ok (.iadd, 1) := by decide +kernel
theorem dL_law_1123 : decode cL_law 1123 = .ok (.iaload, 1) := by decide +kernel
theorem dL_law_1124 : decode cL_law 1124 = .ok (.aload_n 3, 1) := by decide +kernel
theorem dL_law_1125 : decode cL_law 1125 = .ok (.invokestatic 133, 3) := by decide +kernel
theorem dL_law_1128 : decode cL_law 1128 = .ok (.istore 5, 2) := by decide +kernel
theorem dL_law_1130 : decode cL_law 1130 = .ok (.aload_n 2, 1) := by decide +kernel
theorem dL_law_1131 : decode cL_law 1131 = .ok (.aload_n 0, 1) := by decide +kernel
theorem dL_law_1132 : decode cL_law 1132 = .ok (.iload 4, 2) := by decide +kernel
theorem dL_law_1134 : decode cL_law 1134 = .ok (.iconst 1, 1) := by decide +kernel
theorem dL_law_1135 : decode cL_law 1135 = .ok (.iadd, 1) := by decide +kernel
theorem dL_law_1136 : decode cL_law 1136 = .ok (.iaload, 1) := by decide +kernel
theorem dL_law_1137 : decode cL_law 1137 = .ok (.invokevirtual 135, 3) := by decide +kernel
theorem dL_law_1140 : decode cL_law 1140 = .ok (.istore 6, 2) := by decide +kernel
theorem dL_law_1142 : decode cL_law 1142 = .ok (.aload_n 2, 1) := by decide +kernel
theorem dL_law_1143 : decode cL_law 1143 = .ok (.invokevirtual 88, 3) := by decide +kernel
theorem dL_law_1146 : decode cL_law 1146 = .ok (.iload 5, 2) := by decide +kernel
theorem dL_law_1148 : decode cL_law 1148 = .ok (.if_icmp .eq 5, 3) := by decide +kernel
theorem dL_law_1151 : decode cL_law 1151 = .ok (.iconst 0, 1) := by decide +kernel
theorem dL_law_1152 : decode cL_law 1152 = .ok (.ireturn, 1) := by decide +kernel
theorem dL_law_1153 : decode cL_law 1153 = .ok (.iload 5, 2) := by decide +kernel
theorem dL_law_1155 : decode cL_law 1155 = .ok (.ifCond .ne 15, 3) := by decide +kernel
theorem dL_law_1158 : decode cL_law 1158 = .ok (.aload_n 3, 1) := by decide +kernel
theorem dL_law_1159 : decode cL_law 1159 = .ok (.iconst 0, 1) := by decide +kernel
theorem dL_law_1160 : decode cL_law 1160 = .ok (.laload, 1) := by decide +kernel
theorem dL_law_1161 : decode cL_law 1161 = .ok (.iload 6, 2) := by decide +kernel
theorem dL_law_1163 : decode cL_law 1163 = .ok (.i2l, 1) := by decide +kernel
theorem dL_law_1164 : decode cL_law 1164 = .ok (.lcmp, 1) := by decide +kernel
theorem dL_law_1165 : decode cL_law 1165 = .ok (.ifCond .eq 5, 3) := by decide +kernel
theorem dL_law_1168 : decode cL_law 1168 = .ok (.iconst 0, 1) := by decide +kernel
theorem dL_law_1169 : decode cL_law 1169 = .ok (.ireturn, 1) := by decide +kernel
theorem dL_law_1170 : decode cL_law 1170 = .ok (.goto 183, 3) := by decide +kernel
theorem dL_law_1173 : decode cL_law 1173 = .ok (.aload_n 1, 1) := by decide +kernel
theorem dL_law_1174 : decode cL_law 1174 = .ok (.aload_n 0, 1) := by decide +kernel
theorem dL_law_1175 : decode cL_law 1175 = .ok (.iload 4, 2) := by decide +kernel
theorem dL_law_1177 : decode cL_law 1177 = .ok (.iconst 1, 1) := by decide +kernel
theorem dL_law_1178 : decode cL_law 1178 = .ok (.iadd, 1) := by decide +kernel
theorem dL_law_1179 : decode cL_law 1179 = .ok (.iaload, 1) := by decide +kernel
theorem dL_law_1180 : decode cL_law 1180 = .ok (.aload_n 0, 1) := by decide +kernel
theorem dL_law_1181 : decode cL_law 1181 = .ok (.iload 4, 2) := by decide +kernel
theorem dL_law_1183 : decode cL_law 1183 = .ok (.iconst 2, 1) := by decide +kernel
theorem dL_law_1184 : decode cL_law 1184 = .ok (.iadd, 1) := by decide +kernel
theorem dL_law_1185 : decode cL_law 1185 = .ok (.iaload, 1) := by decide +kernel
theorem dL_law_1186 : decode cL_law 1186 = .ok (.aload_n 3, 1) := by decide +kernel
theorem dL_law_1187 : decode cL_law 1187 = .ok (.invokestatic 136, 3) := by decide +kernel
theorem dL_law_1190 : decode cL_law 1190 = .ok (.istore 5, 2) := by decide +kernel
theorem dL_law_1192 : decode cL_law 1192 = .ok (.aload_n 2, 1) := by decide +kernel
theorem dL_law_1193 : decode cL_law 1193 = .ok (.aload_n 0, 1) := by decide +kernel
theorem dL_law_1194 : decode cL_law 1194 = .ok (.iload 4, 2) := by decide +kernel
theorem dL_law_1196 : decode cL_law 1196 = .ok (.iconst 1, 1) := by decide +kernel
theorem dL_law_1197 : decode cL_law 1197 = .ok (.iadd, 1) := by decide +kernel
theorem dL_law_1198 : decode cL_law 1198 = .ok (.iaload, 1) := by decide +kernel
theorem dL_law_1199 : decode cL_law 1199 = .ok (.aload_n 0, 1) := by decide +kernel
theorem dL_law_1200 : decode cL_law 1200 = .ok (.iload 4, 2) := by decide +kernel
theorem dL_law_1202 : decode cL_law 1202 = .ok (.iconst 2, 1) := by decide +kernel
theorem dL_law_1203 : decode cL_law 1203 = .ok (.iadd, 1) := by decide +kernel
theorem dL_law_1204 : decode cL_law 1204 = .ok (.iaload, 1) := by decide +kernel
theorem dL_law_1205 : decode cL_law 1205 = .ok (.invokevirtual 138, 3) := by decide +kernel
theorem dL_law_1208 : decode cL_law 1208 = .ok (.istore 6, 2) := by decide +kernel
theorem dL_law_1210 : decode cL_law 1210 = .ok (.aload_n 2, 1) := by decide +kernel
theorem dL_law_1211 : decode cL_law 1211 = .ok (.invokevirtual 88, 3) := by decide +kernel
theorem dL_law_1214 : decode cL_law 1214 = .ok (.iload 5, 2) := by decide +kernel
theorem dL_law_1216 : decode cL_law 1216 = .ok (.if_icmp .eq 5, 3) := by decide +kernel
theorem dL_law_1219 : decode cL_law 1219 = .ok (.iconst 0, 1) := by decide +kernel
theorem dL_law_1220 : decode cL_law 1220 = .ok (.ireturn, 1) := by decide +kernel
theorem dL_law_1221 : decode cL_law 1221 = .ok (.iload 5, 2) := by decide +kernel
theorem dL_law_1223 : decode cL_law 1223 = .ok (.ifCond .ne 15, 3) := by decide +kernel
theorem dL_law_1226 : decode cL_law 1226 = .ok (.aload_n 3, 1) := by decide +kernel
theorem dL_law_1227 : decode cL_law 1227 = .ok (.iconst 0, 1) := by decide +kernel
theorem dL_law_1228 : decode cL_law 1228 = .ok (.laload, 1) := by decide +kernel
theorem dL_law_1229 : decode cL_law 1229 = .ok (.iload 6, 2) := by decide +kernel
theorem dL_law_1231 : decode cL_law 1231 = .ok (.i2l, 1) := by decide +kernel
theorem dL_law_1232 : decode cL_law 1232 = .ok (.lcmp, 1) := by decide +kernel
theorem dL_law_1233 : decode cL_law 1233 = .ok (.ifCond .eq 5, 3) := by decide +kernel
theorem dL_law_1236 : decode cL_law 1236 = .ok (.iconst 0, 1) := by decide +kernel
theorem dL_law_1237 : decode cL_law 1237 = .ok (.ireturn, 1) := by decide +kernel
theorem dL_law_1238 : decode cL_law 1238 = .ok (.goto 115, 3) := by decide +kernel
theorem dL_law_1241 : decode cL_law 1241 = .ok (.aload_n 1, 1) := by decide +kernel
theorem dL_law_1242 : decode cL_law 1242 = .ok (.aload_n 0, 1) := by decide +kernel
theorem dL_law_1243 : decode cL_law 1243 = .ok (.iload 4, 2) := by decide +kernel
theorem dL_law_1245 : decode cL_law 1245 = .ok (.iconst 1, 1) := by decide +kernel
theorem dL_law_1246 : decode cL_law 1246 = .ok (.iadd, 1) := by decide +kernel
theorem dL_law_1247 : decode cL_law 1247 = .ok (.iaload, 1) := by decide +kernel
theorem dL_law_1248 : decode cL_law 1248 = .ok (.aload_n 3, 1) := by decide +kernel
theorem dL_law_1249 : decode cL_law 1249 = .ok (.invokestatic 139, 3) := by decide +kernel
theorem dL_law_1252 : decode cL_law 1252 = .ok (.istore 5, 2) := by decide +kernel
theorem dL_law_1254 : decode cL_law 1254 = .ok (.aload_n 2, 1) := by decide +kernel
theorem dL_law_1255 : decode cL_law 1255 = .ok (.aload_n 0, 1) := by decide +kernel
theorem dL_law_1256 : decode cL_law 1256 = .ok (.iload 4, 2) := by decide +kernel
theorem dL_law_1258 : decode cL_law 1258 = .ok (.iconst 1, 1) := by decide +kernel
theorem dL_law_1259 : decode cL_law 1259 = .ok (.iadd, 1) := by decide +kernel
theorem dL_law_1260 : decode cL_law 1260 = .ok (.iaload, 1) := by decide +kernel
theorem dL_law_1261 : decode cL_law 1261 = .ok (.invokevirtual 141, 3) := by decide +kernel
theorem dL_law_1264 : decode cL_law 1264 = .ok (.istore 6, 2) := by decide +kernel
theorem dL_law_1266 : decode cL_law 1266 = .ok (.aload_n 2, 1) := by decide +kernel
theorem dL_law_1267 : decode cL_law 1267 = .ok (.invokevirtual 88, 3) := by decide +kernel
theorem dL_law_1270 : decode cL_law 1270 = .ok (.iload 5, 2) := by decide +kernel
theorem dL_law_1272 : decode cL_law 1272 = .ok (.if_icmp .eq 5, 3) := by decide +kernel
theorem dL_law_1275 : decode cL_law 1275 = .ok (.iconst 0, 1) := by decide +kernel
theorem dL_law_1276 : decode cL_law 1276 = .ok (.ireturn, 1) := by decide +kernel
theorem dL_law_1277 : decode cL_law 1277 = .ok (.iload 5, 2) := by decide +kernel
theorem dL_law_1279 : decode cL_law 1279 = .ok (.ifCond .ne 15, 3) := by decide +kernel
theorem dL_law_1282 : decode cL_law 1282 = .ok (.aload_n 3, 1) := by decide +kernel
theorem dL_law_1283 : decode cL_law 1283 = .ok (.iconst 0, 1) := by decide +kernel
theorem dL_law_1284 : decode cL_law 1284 = .ok (.laload, 1) := by decide +kernel
theorem dL_law_1285 : decode cL_law 1285 = .ok (.iload 6, 2) := by decide +kernel
theorem dL_law_1287 : decode cL_law 1287 = .ok (.i2l, 1) := by decide +kernel
theorem dL_law_1288 : decode cL_law 1288 = .ok (.lcmp, 1) := by decide +kernel
theorem dL_law_1289 : decode cL_law 1289 = .ok (.ifCond .eq 5, 3) := by decide +kernel
theorem dL_law_1292 : decode cL_law 1292 = .ok (.iconst 0, 1) := by decide +kernel
theorem dL_law_1293 : decode cL_law 1293 = .ok (.ireturn, 1) := by decide +kernel
theorem dL_law_1294 : decode cL_law 1294 = .ok (.goto 59, 3) := by decide +kernel
theorem dL_law_1297 : decode cL_law 1297 = .ok (.aload_n 1, 1) := by decide +kernel
theorem dL_law_1298 : decode cL_law 1298 = .ok (.aload_n 0, 1) := by decide +kernel
theorem dL_law_1299 : decode cL_law 1299 = .ok (.iload 4, 2) := by decide +kernel
theorem dL_law_1301 : decode cL_law 1301 = .ok (.iconst 1, 1) := by decide +kernel
theorem dL_law_1302 : decode cL_law 1302 = .ok (.iadd, 1) := by decide +kernel
theorem dL_law_1303 : decode cL_law 1303 = .ok (.iaload, 1) := by decide +kernel
theorem dL_law_1304 : decode cL_law 1304 = .ok (.aload_n 3, 1) := by decide +kernel
theorem dL_law_1305 : decode cL_law 1305 = .ok (.invokestatic 142, 3) := by decide +kernel
theorem dL_law_1308 : decode cL_law 1308 = .ok (.istore 5, 2) := by decide +kernel
theorem dL_law_1310 : decode cL_law 1310 = .ok (.aload_n 2, 1) := by decide +kernel
theorem dL_law_1311 : decode cL_law 1311 = .ok (.aload_n 0, 1) := by decide +kernel
theorem dL_law_1312 : decode cL_law 1312 = .ok (.iload 4, 2) := by decide +kernel
theorem dL_law_1314 : decode cL_law 1314 = .ok (.iconst 1, 1) := by decide +kernel
theorem dL_law_1315 : decode cL_law 1315 = .ok (.iadd, 1) := by decide +kernel
theorem dL_law_1316 : decode cL_law 1316 = .ok (.iaload, 1) := by decide +kernel
theorem dL_law_1317 : decode cL_law 1317 = .ok (.invokevirtual 144, 3) := by decide +kernel
theorem dL_law_1320 : decode cL_law 1320 = .ok (.istore 6, 2) := by decide +kernel
theorem dL_law_1322 : decode cL_law 1322 = .ok (.aload_n 2, 1) := by decide +kernel
theorem dL_law_1323 : decode cL_law 1323 = .ok (.invokevirtual 88, 3) := by decide +kernel
theorem dL_law_1326 : decode cL_law 1326 = .ok (.iload 5, 2) := by decide +kernel
theorem dL_law_1328 : decode cL_law 1328 = .ok (.if_icmp .eq 5, 3) := by decide +kernel
theorem dL_law_1331 : decode cL_law 1331 = .ok (.iconst 0, 1) := by decide +kernel
theorem dL_law_1332 : decode cL_law 1332 = .ok (.ireturn, 1) := by decide +kernel
theorem dL_law_1333 : decode cL_law 1333 = .ok (.iload 5, 2) := by decide +kernel
theorem dL_law_1335 : decode cL_law 1335 = .ok (.ifCond .ne 15, 3) := by decide +kernel
theorem dL_law_1338 : decode cL_law 1338 = .ok (.aload_n 3, 1) := by decide +kernel
theorem dL_law_1339 : decode cL_law 1339 = .ok (.iconst 0, 1) := by decide +kernel
theorem dL_law_1340 : decode cL_law 1340 = .ok (.laload, 1) := by decide +kernel
theorem dL_law_1341 : decode cL_law 1341 = .ok (.iload 6, 2) := by decide +kernel
theorem dL_law_1343 : decode cL_law 1343 = .ok (.i2l, 1) := by decide +kernel
theorem dL_law_1344 : decode cL_law 1344 = .ok (.lcmp, 1) := by decide +kernel
theorem dL_law_1345 : decode cL_law 1345 = .ok (.ifCond .eq 5, 3) := by decide +kernel
theorem dL_law_1348 : decode cL_law 1348 = .ok (.iconst 0, 1) := by decide +kernel
theorem dL_law_1349 : decode cL_law 1349 = .ok (.ireturn, 1) := by decide +kernel
theorem dL_law_1350 : decode cL_law 1350 = .ok (.goto 3, 3) := by decide +kernel
theorem dL_law_1353 : decode cL_law 1353 = .ok (.iinc 4 5, 3) := by decide +kernel
theorem dL_law_1356 : decode cL_law 1356 = .ok (.goto (-1333), 3) := by decide +kernel
theorem dL_law_1359 : decode cL_law 1359 = .ok (.iconst 1, 1) := by decide +kernel
theorem dL_law_1360 : decode cL_law 1360 = .ok (.ireturn, 1) := by decide +kernel
end
section
theorem wd_in_X0 : Cond.initialized RX0 ∈ GW := gw_at 28 (by decide +kernel) (by decide +kernel)
theorem wd_in_X1 : Cond.initialized RX1 ∈ GW := gw_at 27 (by decide +kernel) (by decide +kernel)
theorem wd_in_X2 : Cond.initialized RX2 ∈ GW := gw_at 31 (by decide +kernel) (by decide +kernel)
theorem wd_in_X3 : Cond.initialized RX3 ∈ GW := gw_at 30 (by decide +kernel) (by decide +kernel)
theorem wd_in_X4 : Cond.initialized RX4 ∈ GW := gw_at 29 (by decide +kernel) (by decide +kernel)
theorem wd_in_X5 : Cond.initialized RX5 ∈ GW := gw_at 26 (by decide +kernel) (by decide +kernel)
theorem wd_in_X6 : Cond.initialized RX6 ∈ GW := gw_at 32 (by decide +kernel) (by decide +kernel)
theorem wd_in_L : Cond.initialized RL ∈ GW := gw_at 25 (by decide +kernel) (by decide +kernel)
theorem wd_in_J6 : Cond.initialized RJ6 ∈ GW := gw_at 38 (by decide +kernel) (by decide +kernel)
theorem wd_in_J9 : Cond.initialized RJ9 ∈ GW := gw_at 40 (by decide +kernel) (by decide +kernel)
theorem gn_X0 : ∀ w ∈ wsX00, w ∈ GW := gw_ws [83, 85] (by decide +kernel) (by decide +kernel)
theorem wd_ib_X0 : Cond.instantiable RX0 2 ∈ GW := gw_at 75 (by decide +kernel) (by decide +kernel)
theorem gn_X1 : ∀ w ∈ wsX10, w ∈ GW := gw_ws [66, 68, 70] (by decide +kernel) (by decide +kernel)
theorem wd_ib_X1 : Cond.instantiable RX1 3 ∈ GW := gw_at 50 (by decide +kernel) (by decide +kernel)
theorem gn_X2 : ∀ w ∈ wsX20, w ∈ GW := gw_ws [135, 137, 139, 141, 143, 145] (by decide +kernel) (by decide +kernel)
theorem wd_ib_X2 : Cond.instantiable RX2 6 ∈ GW := gw_at 121 (by decide +kernel) (by decide +kernel)
theorem gn_X3 : ∀ w ∈ wsX30, w ∈ GW := gw_ws [115, 117] (by decide +kernel) (by decide +kernel)
theorem wd_ib_X3 : Cond.instantiable RX3 2 ∈ GW := gw_at 106 (by decide +kernel) (by decide +kernel)
theorem gn_X4 : ∀ w ∈ wsX40, w ∈ GW := gw_ws [98, 100, 102] (by decide +kernel) (by decide +kernel)
theorem wd_ib_X4 : Cond.instantiable RX4 3 ∈ GW := gw_at 89 (by decide +kernel) (by decide +kernel)
theorem gn_X5 : ∀ w ∈ wsX50, w ∈ GW := gw_ws [155, 157, 159, 161, 163, 165, 167] (by decide +kernel) (by decide +kernel)
theorem wd_ib_X5 : Cond.instantiable RX5 7 ∈ GW := gw_at 42 (by decide +kernel) (by decide +kernel)
theorem gn_X6 : ∀ w ∈ wsX60, w ∈ GW := gw_ws [583, 585, 587, 589, 591, 593, 595, 597, 599, 601, 603, 605, 607, 609, 611, 613, 615, 617] (by decide +kernel) (by decide +kernel)
theorem wd_ib_X6 : Cond.instantiable RX6 18 ∈ GW := gw_at 556 (by decide +kernel) (by decide +kernel)
section FLD
variable {p : Program} {l : Launch} {e : Env} {R : Room} {s : State} {m : MethodId} {args : Array Value} {below : List Frame} {meth : Method} {c : Code} {H : Heap} {locs : List Loc} {cells slots : Nat} {Q : State → Prop} {cc : ByteArray} {pc : Nat} {ls : Array Slot} {rest : List Value} {D : va_G} {A : Nat → Prop} {a : Nat} {tys : List (ClassId × FieldType)} {ws : va_W} {H0 : Heap}
theorem wd_fl_X5_10 : Cond.fieldLink RX5 10 "FormFinds" "notes" "LFormFinds$NoteRow;" ∈ GW := gw_at 148 (by decide +kernel) (by decide +kernel)
theorem gf_X5_10 (hx : p.tables.exec = Jvm.exec) (hb : c.code = cc) (hg : ∀ w ∈ GW, w.before args s = true) (hown : s.vm.findClass RX5 = some m.cls) (hK : va_K D vwCl tys s) (hP : va_P D vwCl ws H) (q0 : Nat) {fs : List Value} (he : ws[q0]? = some (a, .inr (5, fs))) {v : Value} (hv : fs[0]? = some v) (hdg : decode cc pc = .ok (.getfield 10, 3)) (kk : W p l e R s m args below meth c H locs cells slots Q (F0 m (pc + 3) ls (v :: rest))) : W p l e R s m args below meth c H locs cells slots Q (F0 m pc ls (.ref a :: rest)) := va_get (C := RX5) (T := TX5) (N := 7) hx hb hg gn_X5 hown hK hP q0 he rfl 0 (by decide) (hg _ wd_fl_X5_10) (fun _ h9 => h9) hv hdg kk
theorem pf_X5_10 (hx : p.tables.exec = Jvm.exec) (hb : c.code = cc) (hg : ∀ w ∈ GW, w.before args s = true) (hown : s.vm.findClass RX5 = some m.cls) (hin : meth.name = "<init>") (hK : va_K D vwCl tys s) (hP : va_P D vwCl ws H) (hD : va_D A ws) (hS : va_S A H0 H locs) (q0 : Nat) {fs : List Value} {x : Nat} (he : ws[q0]? = some (a, .inr (5, fs))) (hl : 0 < fs.length) (hdg : decode cc pc = .ok (.putfield 10, 3)) (kk : ∀ (H1 : Heap) (locs1 : List Loc), va_P D vwCl (ws.set q0 (a, .inr (5, fs.set 0 (.ref x)))) H1 → va_D A (ws.set q0 (a, .inr (5, fs.set 0 (.ref x)))) → va_S A H0 H1 locs1 → W p l e R s m args below meth c H1 locs1 cells slots Q (F0 m (pc + 3) ls rest)) : W p l e R s m args below meth c H locs cells slots Q (F0 m pc ls (.ref x :: .ref a :: rest)) := va_putF (C := RX5) (T := TX5) (N := 7) (ty := (.object "FormFinds$NoteRow")) hx hb hg gn_X5 tyX5 tyX5_ok nmX5 hown hK hP hD hS q0 he rfl 0 (by decide) (hg _ wd_fl_X5_10) (fun _ h9 => h9) rfl hin rfl (by decide +kernel) rfl rfl hl hdg kk
theorem wd_fl_X5_16 : Cond.fieldLink RX5 16 "FormFinds" "theme" "LFormFinds$NoteRow;" ∈ GW := gw_at 149 (by decide +kernel) (by decide +kernel)
theorem gf_X5_16 (hx : p.tables.exec = Jvm.exec) (hb : c.code = cc) (hg : ∀ w ∈ GW, w.before args s = true) (hown : s.vm.findClass RX5 = some m.cls) (hK : va_K D vwCl tys s) (hP : va_P D vwCl ws H) (q0 : Nat) {fs : List Value} (he : ws[q0]? = some (a, .inr (5, fs))) {v : Value} (hv : fs[1]? = some v) (hdg : decode cc pc = .ok (.getfield 16, 3)) (kk : W p l e R s m args below meth c H locs cells slots Q (F0 m (pc + 3) ls (v :: rest))) : W p l e R s m args below meth c H locs cells slots Q (F0 m pc ls (.ref a :: rest)) := va_get (C := RX5) (T := TX5) (N := 7) hx hb hg gn_X5 hown hK hP q0 he rfl 1 (by decide) (hg _ wd_fl_X5_16) (fun _ h9 => h9) hv hdg kk
theorem pf_X5_16 (hx : p.tables.exec = Jvm.exec) (hb : c.code = cc) (hg : ∀ w ∈ GW, w.before args s = true) (hown : s.vm.findClass RX5 = some m.cls) (hin : meth.name = "<init>") (hK : va_K D vwCl tys s) (hP : va_P D vwCl ws H) (hD : va_D A ws) (hS : va_S A H0 H locs) (q0 : Nat) {fs : List Value} {x : Nat} (he : ws[q0]? = some (a, .inr (5, fs))) (hl : 1 < fs.length) (hdg : decode cc pc = .ok (.putfield 16, 3)) (kk : ∀ (H1 : Heap) (locs1 : List Loc), va_P D vwCl (ws.set q0 (a, .inr (5, fs.set 1 (.ref x)))) H1 → va_D A (ws.set q0 (a, .inr (5, fs.set 1 (.ref x)))) → va_S A H0 H1 locs1 → W p l e R s m args below meth c H1 locs1 cells slots Q (F0 m (pc + 3) ls rest)) : W p l e R s m args below meth c H locs cells slots Q (F0 m pc ls (.ref x :: .ref a :: rest)) := va_putF (C := RX5) (T := TX5) (N := 7) (ty := (.object "FormFinds$NoteRow")) hx hb hg gn_X5 tyX5 tyX5_ok nmX5 hown hK hP hD hS q0 he rfl 1 (by decide) (hg _ wd_fl_X5_16) (fun _ h9 => h9) rfl hin rfl (by decide +kernel) rfl rfl hl hdg kk
theorem wd_fl_X5_19 : Cond.fieldLink RX5 19 "FormFinds" "sought" "LFormFinds$NoteRow;" ∈ GW := gw_at 150 (by decide +kernel) (by decide +kernel)
theorem gf_X5_19 (hx : p.tables.exec = Jvm.exec) (hb : c.code = cc) (hg : ∀ w ∈ GW, w.before args s = true) (hown : s.vm.findClass RX5 = some m.cls) (hK : va_K D vwCl tys s) (hP : va_P D vwCl ws H) (q0 : Nat) {fs : List Value} (he : ws[q0]? = some (a, .inr (5, fs))) {v : Value} (hv : fs[2]? = some v) (hdg : decode cc pc = .ok (.getfield 19, 3)) (kk : W p l e R s m args below meth c H locs cells slots Q (F0 m (pc + 3) ls (v :: rest))) : W p l e R s m args below meth c H locs cells slots Q (F0 m pc ls (.ref a :: rest)) := va_get (C := RX5) (T := TX5) (N := 7) hx hb hg gn_X5 hown hK hP q0 he rfl 2 (by decide) (hg _ wd_fl_X5_19) (fun _ h9 => h9) hv hdg kk
theorem pf_X5_19 (hx : p.tables.exec = Jvm.exec) (hb : c.code = cc) (hg : ∀ w ∈ GW, w.before args s = true) (hown : s.vm.findClass RX5 = some m.cls) (hin : meth.name = "<init>") (hK : va_K D vwCl tys s) (hP : va_P D vwCl ws H) (hD : va_D A ws) (hS : va_S A H0 H locs) (q0 : Nat) {fs : List Value} {x : Nat} (he : ws[q0]? = some (a, .inr (5, fs))) (hl : 2 < fs.length) (hdg : decode cc pc = .ok (.putfield 19, 3)) (kk : ∀ (H1 : Heap) (locs1 : List Loc), va_P D vwCl (ws.set q0 (a, .inr (5, fs.set 2 (.ref x)))) H1 → va_D A (ws.set q0 (a, .inr (5, fs.set 2 (.ref x)))) → va_S A H0 H1 locs1 → W p l e R s m args below meth c H1 locs1 cells slots Q (F0 m (pc + 3) ls rest)) : W p l e R s m args below meth c H locs cells slots Q (F0 m pc ls (.ref x :: .ref a :: rest)) := va_putF (C := RX5) (T := TX5) (N := 7) (ty := (.object "FormFinds$NoteRow")) hx hb hg gn_X5 tyX5 tyX5_ok nmX5 hown hK hP hD hS q0 he rfl 2 (by decide) (hg _ wd_fl_X5_19) (fun _ h9 => h9) rfl hin rfl (by decide +kernel) rfl rfl hl hdg kk
theorem wd_fl_X5_25 : Cond.fieldLink RX5 25 "FormFinds" "row" "LFormFinds$ItemRow;" ∈ GW := gw_at 151 (by decide +kernel) (by decide +kernel)
theorem gf_X5_25 (hx : p.tables.exec = Jvm.exec) (hb : c.code = cc) (hg : ∀ w ∈ GW, w.before args s = true) (hown : s.vm.findClass RX5 = some m.cls) (hK : va_K D vwCl tys s) (hP : va_P D vwCl ws H) (q0 : Nat) {fs : List Value} (he : ws[q0]? = some (a, .inr (5, fs))) {v : Value} (hv : fs[3]? = some v) (hdg : decode cc pc = .ok (.getfield 25, 3)) (kk : W p l e R s m args below meth c H locs cells slots Q (F0 m (pc + 3) ls (v :: rest))) : W p l e R s m args below meth c H locs cells slots Q (F0 m pc ls (.ref a :: rest)) := va_get (C := RX5) (T := TX5) (N := 7) hx hb hg gn_X5 hown hK hP q0 he rfl 3 (by decide) (hg _ wd_fl_X5_25) (fun _ h9 => h9) hv hdg kk
theorem pf_X5_25 (hx : p.tables.exec = Jvm.exec) (hb : c.code = cc) (hg : ∀ w ∈ GW, w.before args s = true) (hown : s.vm.findClass RX5 = some m.cls) (hin : meth.name = "<init>") (hK : va_K D vwCl tys s) (hP : va_P D vwCl ws H) (hD : va_D A ws) (hS : va_S A H0 H locs) (q0 : Nat) {fs : List Value} {x : Nat} (he : ws[q0]? = some (a, .inr (5, fs))) (hl : 3 < fs.length) (hdg : decode cc pc = .ok (.putfield 25, 3)) (kk : ∀ (H1 : Heap) (locs1 : List Loc), va_P D vwCl (ws.set q0 (a, .inr (5, fs.set 3 (.ref x)))) H1 → va_D A (ws.set q0 (a, .inr (5, fs.set 3 (.ref x)))) → va_S A H0 H1 locs1 → W p l e R s m args below meth c H1 locs1 cells slots Q (F0 m (pc + 3) ls rest)) : W p l e R s m args below meth c H locs cells slots Q (F0 m pc ls (.ref x :: .ref a :: rest)) := va_putF (C := RX5) (T := TX5) (N := 7) (ty := (.object "FormFinds$ItemRow")) hx hb hg gn_X5 tyX5 tyX5_ok nmX5 hown hK hP hD hS q0 he rfl 3 (by decide) (hg _ wd_fl_X5_25) (fun _ h9 => h9) rfl hin rfl (by decide +kernel) rfl rfl hl hdg kk
theorem wd_fl_X5_32 : Cond.fieldLink RX5 32 "FormFinds" "again" "LFormFinds$RepeatList;" ∈ GW := gw_at 152 (by decide +kernel) (by decide +kernel)
theorem gf_X5_32 (hx : p.tables.exec = Jvm.exec) (hb : c.code = cc) (hg : ∀ w ∈ GW, w.before args s = true) (hown : s.vm.findClass RX5 = some m.cls) (hK : va_K D vwCl tys s) (hP : va_P D vwCl ws H) (q0 : Nat) {fs : List Value} (he : ws[q0]? = some (a, .inr (5, fs))) {v : Value} (hv : fs[4]? = some v) (hdg : decode cc pc = .ok (.getfield 32, 3)) (kk : W p l e R s m args below meth c H locs cells slots Q (F0 m (pc + 3) ls (v :: rest))) : W p l e R s m args below meth c H locs cells slots Q (F0 m pc ls (.ref a :: rest)) := va_get (C := RX5) (T := TX5) (N := 7) hx hb hg gn_X5 hown hK hP q0 he rfl 4 (by decide) (hg _ wd_fl_X5_32) (fun _ h9 => h9) hv hdg kk
theorem pf_X5_32 (hx : p.tables.exec = Jvm.exec) (hb : c.code = cc) (hg : ∀ w ∈ GW, w.before args s = true) (hown : s.vm.findClass RX5 = some m.cls) (hin : meth.name = "<init>") (hK : va_K D vwCl tys s) (hP : va_P D vwCl ws H) (hD : va_D A ws) (hS : va_S A H0 H locs) (q0 : Nat) {fs : List Value} {x : Nat} (he : ws[q0]? = some (a, .inr (5, fs))) (hl : 4 < fs.length) (hdg : decode cc pc = .ok (.putfield 32, 3)) (kk : ∀ (H1 : Heap) (locs1 : List Loc), va_P D vwCl (ws.set q0 (a, .inr (5, fs.set 4 (.ref x)))) H1 → va_D A (ws.set q0 (a, .inr (5, fs.set 4 (.ref x)))) → va_S A H0 H1 locs1 → W p l e R s m args below meth c H1 locs1 cells slots Q (F0 m (pc + 3) ls rest)) : W p l e R s m args below meth c H locs cells slots Q (F0 m pc ls (.ref x :: .ref a :: rest)) := va_putF (C := RX5) (T := TX5) (N := 7) (ty := (.object "FormFinds$RepeatList")) hx hb hg gn_X5 tyX5 tyX5_ok nmX5 hown hK hP hD hS q0 he rfl 4 (by decide) (hg _ wd_fl_X5_32) (fun _ h9 => h9) rfl hin rfl (by decide +kernel) rfl rfl hl hdg kk
theorem wd_fl_X5_39 : Cond.fieldLink RX5 39 "FormFinds" "places" "LFormFinds$PlaceList;" ∈ GW := gw_at 153 (by decide +kernel) (by decide +kernel)
theorem gf_X5_39 (hx : p.tables.exec = Jvm.exec) (hb : c.code = cc) (hg : ∀ w ∈ GW, w.before args s = true) (hown : s.vm.findClass RX5 = some m.cls) (hK : va_K D vwCl tys s) (hP : va_P D vwCl ws H) (q0 : Nat) {fs : List Value} (he : ws[q0]? = some (a, .inr (5, fs))) {v : Value} (hv : fs[5]? = some v) (hdg : decode cc pc = .ok (.getfield 39, 3)) (kk : W p l e R s m args below meth c H locs cells slots Q (F0 m (pc + 3) ls (v :: rest))) : W p l e R s m args below meth c H locs cells slots Q (F0 m pc ls (.ref a :: rest)) := va_get (C := RX5) (T := TX5) (N := 7) hx hb hg gn_X5 hown hK hP q0 he rfl 5 (by decide) (hg _ wd_fl_X5_39) (fun _ h9 => h9) hv hdg kk
theorem pf_X5_39 (hx : p.tables.exec = Jvm.exec) (hb : c.code = cc) (hg : ∀ w ∈ GW, w.before args s = true) (hown : s.vm.findClass RX5 = some m.cls) (hin : meth.name = "<init>") (hK : va_K D vwCl tys s) (hP : va_P D vwCl ws H) (hD : va_D A ws) (hS : va_S A H0 H locs) (q0 : Nat) {fs : List Value} {x : Nat} (he : ws[q0]? = some (a, .inr (5, fs))) (hl : 5 < fs.length) (hdg : decode cc pc = .ok (.putfield 39, 3)) (kk : ∀ (H1 : Heap) (locs1 : List Loc), va_P D vwCl (ws.set q0 (a, .inr (5, fs.set 5 (.ref x)))) H1 → va_D A (ws.set q0 (a, .inr (5, fs.set 5 (.ref x)))) → va_S A H0 H1 locs1 → W p l e R s m args below meth c H1 locs1 cells slots Q (F0 m (pc + 3) ls rest)) : W p l e R s m args below meth c H locs cells slots Q (F0 m pc ls (.ref x :: .ref a :: rest)) := va_putF (C := RX5) (T := TX5) (N := 7) (ty := (.object "FormFinds$PlaceList")) hx hb hg gn_X5 tyX5 tyX5_ok nmX5 hown hK hP hD hS q0 he rfl 5 (by decide) (hg _ wd_fl_X5_39) (fun _ h9 => h9) rfl hin rfl (by decide +kernel) rfl rfl hl hdg kk
theorem wd_fl_X5_46 : Cond.fieldLink RX5 46 "FormFinds" "parting" "LFormFinds$Parting;" ∈ GW := gw_at 154 (by decide +kernel) (by decide +kernel)
theorem gf_X5_46 (hx : p.tables.exec = Jvm.exec) (hb : c.code = cc) (hg : ∀ w ∈ GW, w.before args s = true) (hown : s.vm.findClass RX5 = some m.cls) (hK : va_K D vwCl tys s) (hP : va_P D vwCl ws H) (q0 : Nat) {fs : List Value} (he : ws[q0]? = some (a, .inr (5, fs))) {v : Value} (hv : fs[6]? = some v) (hdg : decode cc pc = .ok (.getfield 46, 3)) (kk : W p l e R s m args below meth c H locs cells slots Q (F0 m (pc + 3) ls (v :: rest))) : W p l e R s m args below meth c H locs cells slots Q (F0 m pc ls (.ref a :: rest)) := va_get (C := RX5) (T := TX5) (N := 7) hx hb hg gn_X5 hown hK hP q0 he rfl 6 (by decide) (hg _ wd_fl_X5_46) (fun _ h9 => h9) hv hdg kk
theorem pf_X5_46 (hx : p.tables.exec = Jvm.exec) (hb : c.code = cc) (hg : ∀ w ∈ GW, w.before args s = true) (hown : s.vm.findClass RX5 = some m.cls) (hin : meth.name = "<init>") (hK : va_K D vwCl tys s) (hP : va_P D vwCl ws H) (hD : va_D A ws) (hS : va_S A H0 H locs) (q0 : Nat) {fs : List Value} {x : Nat} (he : ws[q0]? = some (a, .inr (5, fs))) (hl : 6 < fs.length) (hdg : decode cc pc = .ok (.putfield 46, 3)) (kk : ∀ (H1 : Heap) (locs1 : List Loc), va_P D vwCl (ws.set q0 (a, .inr (5, fs.set 6 (.ref x)))) H1 → va_D A (ws.set q0 (a, .inr (5, fs.set 6 (.ref x)))) → va_S A H0 H1 locs1 → W p l e R s m args below meth c H1 locs1 cells slots Q (F0 m (pc + 3) ls rest)) : W p l e R s m args below meth c H locs cells slots Q (F0 m pc ls (.ref x :: .ref a :: rest)) := va_putF (C := RX5) (T := TX5) (N := 7) (ty := (.object "FormFinds$Parting")) hx hb hg gn_X5 tyX5 tyX5_ok nmX5 hown hK hP hD hS q0 he rfl 6 (by decide) (hg _ wd_fl_X5_46) (fun _ h9 => h9) rfl hin rfl (by decide +kernel) rfl rfl hl hdg kk
theorem wd_fl_X5_50 : Cond.fieldLink RX5 50 "FormFinds$NoteRow" "size" "I" ∈ GW := gw_at 63 (by decide +kernel) (by decide +kernel)
theorem gf_X5_50 (hx : p.tables.exec = Jvm.exec) (hb : c.code = cc) (hg : ∀ w ∈ GW, w.before args s = true) (hown : s.vm.findClass RX5 = some m.cls) (hK : va_K D vwCl tys s) (hP : va_P D vwCl ws H) (q0 : Nat) {fs : List Value} (he : ws[q0]? = some (a, .inr (1, fs))) {v : Value} (hv : fs[2]? = some v) (hdg : decode cc pc = .ok (.getfield 50, 3)) (kk : W p l e R s m args below meth c H locs cells slots Q (F0 m (pc + 3) ls (v :: rest))) : W p l e R s m args below meth c H locs cells slots Q (F0 m pc ls (.ref a :: rest)) := va_get (C := RX1) (T := TX1) (N := 3) hx hb hg gn_X1 hown hK hP q0 he rfl 2 (by decide) (hg _ wd_fl_X5_50) (fun _ h9 => h9) hv hdg kk
theorem pf_X5_50 (hx : p.tables.exec = Jvm.exec) (hb : c.code = cc) (hg : ∀ w ∈ GW, w.before args s = true) (hown : s.vm.findClass RX5 = some m.cls) (hK : va_K D vwCl tys s) (hP : va_P D vwCl ws H) (hD : va_D A ws) (hS : va_S A H0 H locs) (q0 : Nat) {fs : List Value} {x : Int32} (he : ws[q0]? = some (a, .inr (1, fs))) (hl : 2 < fs.length) (hdg : decode cc pc = .ok (.putfield 50, 3)) (kk : ∀ (H1 : Heap) (locs1 : List Loc), va_P D vwCl (ws.set q0 (a, .inr (1, fs.set 2 (.int x)))) H1 → va_D A (ws.set q0 (a, .inr (1, fs.set 2 (.int x)))) → va_S A H0 H1 locs1 → W p l e R s m args below meth c H1 locs1 cells slots Q (F0 m (pc + 3) ls rest)) : W p l e R s m args below meth c H locs cells slots Q (F0 m pc ls (.int x :: .ref a :: rest)) := va_put (C := RX1) (T := TX1) (N := 3) (ty := .int) hx hb hg gn_X1 tyX1 tyX1_ok nmX1 hown hK hP hD hS q0 he rfl 2 (by decide) (hg _ wd_fl_X5_50) (fun _ h9 => h9) rfl (by decide +kernel) rfl rfl hl hdg kk
theorem wd_fl_X5_54 : Cond.fieldLink RX5 54 "FormFinds$RepeatList" "size" "I" ∈ GW := gw_at 96 (by decide +kernel) (by decide +kernel)
theorem gf_X5_54 (hx : p.tables.exec = Jvm.exec) (hb : c.code = cc) (hg : ∀ w ∈ GW, w.before args s = true) (hown : s.vm.findClass RX5 = some m.cls) (hK : va_K D vwCl tys s) (hP : va_P D vwCl ws H) (q0 : Nat) {fs : List Value} (he : ws[q0]? = some (a, .inr (4, fs))) {v : Value} (hv : fs[2]? = some v) (hdg : decode cc pc = .ok (.getfield 54, 3)) (kk : W p l e R s m args below meth c H locs cells slots Q (F0 m (pc + 3) ls (v :: rest))) : W p l e R s m args below meth c H locs cells slots Q (F0 m pc ls (.ref a :: rest)) := va_get (C := RX4) (T := TX4) (N := 3) hx hb hg gn_X4 hown hK hP q0 he rfl 2 (by decide) (hg _ wd_fl_X5_54) (fun _ h9 => h9) hv hdg kk
theorem pf_X5_54 (hx : p.tables.exec = Jvm.exec) (hb : c.code = cc) (hg : ∀ w ∈ GW, w.before args s = true) (hown : s.vm.findClass RX5 = some m.cls) (hK : va_K D vwCl tys s) (hP : va_P D vwCl ws H) (hD : va_D A ws) (hS : va_S A H0 H locs) (q0 : Nat) {fs : List Value} {x : Int32} (he : ws[q0]? = some (a, .inr (4, fs))) (hl : 2 < fs.length) (hdg : decode cc pc = .ok (.putfield 54, 3)) (kk : ∀ (H1 : Heap) (locs1 : List Loc), va_P D vwCl (ws.set q0 (a, .inr (4, fs.set 2 (.int x)))) H1 → va_D A (ws.set q0 (a, .inr (4, fs.set 2 (.int x)))) → va_S A H0 H1 locs1 → W p l e R s m args below meth c H1 locs1 cells slots Q (F0 m (pc + 3) ls rest)) : W p l e R s m args below meth c H locs cells slots Q (F0 m pc ls (.int x :: .ref a :: rest)) := va_put (C := RX4) (T := TX4) (N := 3) (ty := .int) hx hb hg gn_X4 tyX4 tyX4_ok nmX4 hown hK hP hD hS q0 he rfl 2 (by decide) (hg _ wd_fl_X5_54) (fun _ h9 => h9) rfl (by decide +kernel) rfl rfl hl hdg kk
theorem wd_fl_X5_55 : Cond.fieldLink RX5 55 "FormFinds$PlaceList" "size" "I" ∈ GW := gw_at 114 (by decide +kernel) (by decide +kernel)
theorem gf_X5_55 (hx : p.tables.exec = Jvm.exec) (hb : c.code = cc) (hg : ∀ w ∈ GW, w.before args s = true) (hown : s.vm.findClass RX5 = some m.cls) (hK : va_K D vwCl tys s) (hP : va_P D vwCl ws H) (q0 : Nat) {fs : List Value} (he : ws[q0]? = some (a, .inr (3, fs))) {v : Value} (hv : fs[1]? = some v) (hdg : decode cc pc = .ok (.getfield 55, 3)) (kk : W p l e R s m args below meth c H locs cells slots Q (F0 m (pc + 3) ls (v :: rest))) : W p l e R s m args below meth c H locs cells slots Q (F0 m pc ls (.ref a :: rest)) := va_get (C := RX3) (T := TX3) (N := 2) hx hb hg gn_X3 hown hK hP q0 he rfl 1 (by decide) (hg _ wd_fl_X5_55) (fun _ h9 => h9) hv hdg kk
theorem pf_X5_55 (hx : p.tables.exec = Jvm.exec) (hb : c.code = cc) (hg : ∀ w ∈ GW, w.before args s = true) (hown : s.vm.findClass RX5 = some m.cls) (hK : va_K D vwCl tys s) (hP : va_P D vwCl ws H) (hD : va_D A ws) (hS : va_S A H0 H locs) (q0 : Nat) {fs : List Value} {x : Int32} (he : ws[q0]? = some (a, .inr (3, fs))) (hl : 1 < fs.length) (hdg : decode cc pc = .ok (.putfield 55, 3)) (kk : ∀ (H1 : Heap) (locs1 : List Loc), va_P D vwCl (ws.set q0 (a, .inr (3, fs.set 1 (.int x)))) H1 → va_D A (ws.set q0 (a, .inr (3, fs.set 1 (.int x)))) → va_S A H0 H1 locs1 → W p l e R s m args below meth c H1 locs1 cells slots Q (F0 m (pc + 3) ls rest)) : W p l e R s m args below meth c H locs cells slots Q (F0 m pc ls (.int x :: .ref a :: rest)) := va_put (C := RX3) (T := TX3) (N := 2) (ty := .int) hx hb hg gn_X3 tyX3 tyX3_ok nmX3 hown hK hP hD hS q0 he rfl 1 (by decide) (hg _ wd_fl_X5_55) (fun _ h9 => h9) rfl (by decide +kernel) rfl rfl hl hdg kk
theorem wd_fl_X5_56 : Cond.fieldLink RX5 56 "FormFinds$Parting" "size" "I" ∈ GW := gw_at 128 (by decide +kernel) (by decide +kernel)
theorem gf_X5_56 (hx : p.tables.exec = Jvm.exec) (hb : c.code = cc) (hg : ∀ w ∈ GW, w.before args s = true) (hown : s.vm.findClass RX5 = some m.cls) (hK : va_K D vwCl tys s) (hP : va_P D vwCl ws H) (q0 : Nat) {fs : List Value} (he : ws[q0]? = some (a, .inr (2, fs))) {v : Value} (hv : fs[1]? = some v) (hdg : decode cc pc = .ok (.getfield 56, 3)) (kk : W p l e R s m args below meth c H locs cells slots Q (F0 m (pc + 3) ls (v :: rest))) : W p l e R s m args below meth c H locs cells slots Q (F0 m pc ls (.ref a :: rest)) := va_get (C := RX2) (T := TX2) (N := 6) hx hb hg gn_X2 hown hK hP q0 he rfl 1 (by decide) (hg _ wd_fl_X5_56) (fun _ h9 => h9) hv hdg kk
theorem pf_X5_56 (hx : p.tables.exec = Jvm.exec) (hb : c.code = cc) (hg : ∀ w ∈ GW, w.before args s = true) (hown : s.vm.findClass RX5 = some m.cls) (hK : va_K D vwCl tys s) (hP : va_P D vwCl ws H) (hD : va_D A ws) (hS : va_S A H0 H locs) (q0 : Nat) {fs : List Value} {x : Int32} (he : ws[q0]? = some (a, .inr (2, fs))) (hl : 1 < fs.length) (hdg : decode cc pc = .ok (.putfield 56, 3)) (kk : ∀ (H1 : Heap) (locs1 : List Loc), va_P D vwCl (ws.set q0 (a, .inr (2, fs.set 1 (.int x)))) H1 → va_D A (ws.set q0 (a, .inr (2, fs.set 1 (.int x)))) → va_S A H0 H1 locs1 → W p l e R s m args below meth c H1 locs1 cells slots Q (F0 m (pc + 3) ls rest)) : W p l e R s m args below meth c H locs cells slots Q (F0 m pc ls (.int x :: .ref a :: rest)) := va_put (C := RX2) (T := TX2) (N := 6) (ty := .int) hx hb hg gn_X2 tyX2 tyX2_ok nmX2 hown hK hP hD hS q0 he rfl 1 (by decide) (hg _ wd_fl_X5_56) (fun _ h9 => h9) rfl (by decide +kernel) rfl rfl hl hdg kk
theorem wd_fl_X5_57 : Cond.fieldLink RX5 57 "FormFinds$Parting" "cost" "I" ∈ GW := gw_at 130 (by decide +kernel) (by decide +kernel)
theorem gf_X5_57 (hx : p.tables.exec = Jvm.exec) (hb : c.code = cc) (hg : ∀ w ∈ GW, w.before args s = true) (hown : s.vm.findClass RX5 = some m.cls) (hK : va_K D vwCl tys s) (hP : va_P D vwCl ws H) (q0 : Nat) {fs : List Value} (he : ws[q0]? = some (a, .inr (2, fs))) {v : Value} (hv : fs[2]? = some v) (hdg : decode cc pc = .ok (.getfield 57, 3)) (kk : W p l e R s m args below meth c H locs cells slots Q (F0 m (pc + 3) ls (v :: rest))) : W p l e R s m args below meth c H locs cells slots Q (F0 m pc ls (.ref a :: rest)) := va_get (C := RX2) (T := TX2) (N := 6) hx hb hg gn_X2 hown hK hP q0 he rfl 2 (by decide) (hg _ wd_fl_X5_57) (fun _ h9 => h9) hv hdg kk
theorem pf_X5_57 (hx : p.tables.exec = Jvm.exec) (hb : c.code = cc) (hg : ∀ w ∈ GW, w.before args s = true) (hown : s.vm.findClass RX5 = some m.cls) (hK : va_K D vwCl tys s) (hP : va_P D vwCl ws H) (hD : va_D A ws) (hS : va_S A H0 H locs) (q0 : Nat) {fs : List Value} {x : Int32} (he : ws[q0]? = some (a, .inr (2, fs))) (hl : 2 < fs.length) (hdg : decode cc pc = .ok (.putfield 57, 3)) (kk : ∀ (H1 : Heap) (locs1 : List Loc), va_P D vwCl (ws.set q0 (a, .inr (2, fs.set 2 (.int x)))) H1 → va_D A (ws.set q0 (a, .inr (2, fs.set 2 (.int x)))) → va_S A H0 H1 locs1 → W p l e R s m args below meth c H1 locs1 cells slots Q (F0 m (pc + 3) ls rest)) : W p l e R s m args below meth c H locs cells slots Q (F0 m pc ls (.int x :: .ref a :: rest)) := va_put (C := RX2) (T := TX2) (N := 6) (ty := .int) hx hb hg gn_X2 tyX2 tyX2_ok nmX2 hown hK hP hD hS q0 he rfl 2 (by decide) (hg _ wd_fl_X5_57) (fun _ h9 => h9) rfl (by decide +kernel) rfl rfl hl hdg kk
theorem wd_fl_X5_137 : Cond.fieldLink RX5 137 "FormFinds$NoteRow" "pitches" "[I" ∈ GW := gw_at 58 (by decide +kernel) (by decide +kernel)
theorem gf_X5_137 (hx : p.tables.exec = Jvm.exec) (hb : c.code = cc) (hg : ∀ w ∈ GW, w.before args s = true) (hown : s.vm.findClass RX5 = some m.cls) (hK : va_K D vwCl tys s) (hP : va_P D vwCl ws H) (q0 : Nat) {fs : List Value} (he : ws[q0]? = some (a, .inr (1, fs))) {v : Value} (hv : fs[0]? = some v) (hdg : decode cc pc = .ok (.getfield 137, 3)) (kk : W p l e R s m args below meth c H locs cells slots Q (F0 m (pc + 3) ls (v :: rest))) : W p l e R s m args below meth c H locs cells slots Q (F0 m pc ls (.ref a :: rest)) := va_get (C := RX1) (T := TX1) (N := 3) hx hb hg gn_X1 hown hK hP q0 he rfl 0 (by decide) (hg _ wd_fl_X5_137) (fun _ h9 => h9) hv hdg kk
theorem wd_fl_X5_141 : Cond.fieldLink RX5 141 "FormFinds$NoteRow" "lengths" "[I" ∈ GW := gw_at 61 (by decide +kernel) (by decide +kernel)
theorem gf_X5_141 (hx : p.tables.exec = Jvm.exec) (hb : c.code = cc) (hg : ∀ w ∈ GW, w.before args s = true) (hown : s.vm.findClass RX5 = some m.cls) (hK : va_K D vwCl tys s) (hP : va_P D vwCl ws H) (q0 : Nat) {fs : List Value} (he : ws[q0]? = some (a, .inr (1, fs))) {v : Value} (hv : fs[1]? = some v) (hdg : decode cc pc = .ok (.getfield 141, 3)) (kk : W p l e R s m args below meth c H locs cells slots Q (F0 m (pc + 3) ls (v :: rest))) : W p l e R s m args below meth c H locs cells slots Q (F0 m pc ls (.ref a :: rest)) := va_get (C := RX1) (T := TX1) (N := 3) hx hb hg gn_X1 hown hK hP q0 he rfl 1 (by decide) (hg _ wd_fl_X5_141) (fun _ h9 => h9) hv hdg kk
theorem wd_fl_X5_178 : Cond.fieldLink RX5 178 "FormFinds$PlaceList" "starts" "[I" ∈ GW := gw_at 112 (by decide +kernel) (by decide +kernel)
theorem gf_X5_178 (hx : p.tables.exec = Jvm.exec) (hb : c.code = cc) (hg : ∀ w ∈ GW, w.before args s = true) (hown : s.vm.findClass RX5 = some m.cls) (hK : va_K D vwCl tys s) (hP : va_P D vwCl ws H) (q0 : Nat) {fs : List Value} (he : ws[q0]? = some (a, .inr (3, fs))) {v : Value} (hv : fs[0]? = some v) (hdg : decode cc pc = .ok (.getfield 178, 3)) (kk : W p l e R s m args below meth c H locs cells slots Q (F0 m (pc + 3) ls (v :: rest))) : W p l e R s m args below meth c H locs cells slots Q (F0 m pc ls (.ref a :: rest)) := va_get (C := RX3) (T := TX3) (N := 2) hx hb hg gn_X3 hown hK hP q0 he rfl 0 (by decide) (hg _ wd_fl_X5_178) (fun _ h9 => h9) hv hdg kk
theorem wd_fl_X5_187 : Cond.fieldLink RX5 187 "FormFinds$Parting" "starts" "[I" ∈ GW := gw_at 127 (by decide +kernel) (by decide +kernel)
theorem gf_X5_187 (hx : p.tables.exec = Jvm.exec) (hb : c.code = cc) (hg : ∀ w ∈ GW, w.before args s = true) (hown : s.vm.findClass RX5 = some m.cls) (hK : va_K D vwCl tys s) (hP : va_P D vwCl ws H) (q0 : Nat) {fs : List Value} (he : ws[q0]? = some (a, .inr (2, fs))) {v : Value} (hv : fs[0]? = some v) (hdg : decode cc pc = .ok (.getfield 187, 3)) (kk : W p l e R s m args below meth c H locs cells slots Q (F0 m (pc + 3) ls (v :: rest))) : W p l e R s m args below meth c H locs cells slots Q (F0 m pc ls (.ref a :: rest)) := va_get (C := RX2) (T := TX2) (N := 6) hx hb hg gn_X2 hown hK hP q0 he rfl 0 (by decide) (hg _ wd_fl_X5_187) (fun _ h9 => h9) hv hdg kk
theorem wd_fl_X0_9 : Cond.fieldLink RX0 9 "FormFinds$ItemRow" "values" "[I" ∈ GW := gw_at 80 (by decide +kernel) (by decide +kernel)
theorem gf_X0_9 (hx : p.tables.exec = Jvm.exec) (hb : c.code = cc) (hg : ∀ w ∈ GW, w.before args s = true) (hown : s.vm.findClass RX0 = some m.cls) (hK : va_K D vwCl tys s) (hP : va_P D vwCl ws H) (q0 : Nat) {fs : List Value} (he : ws[q0]? = some (a, .inr (0, fs))) {v : Value} (hv : fs[0]? = some v) (hdg : decode cc pc = .ok (.getfield 9, 3)) (kk : W p l e R s m args below meth c H locs cells slots Q (F0 m (pc + 3) ls (v :: rest))) : W p l e R s m args below meth c H locs cells slots Q (F0 m pc ls (.ref a :: rest)) := va_get (C := RX0) (T := TX0) (N := 2) hx hb hg gn_X0 hown hK hP q0 he rfl 0 (by decide) (hg _ wd_fl_X0_9) (fun _ h9 => h9) hv hdg kk
theorem pf_X0_9 (hx : p.tables.exec = Jvm.exec) (hb : c.code = cc) (hg : ∀ w ∈ GW, w.before args s = true) (hown : s.vm.findClass RX0 = some m.cls) (hin : meth.name = "<init>") (hK : va_K D vwCl tys s) (hP : va_P D vwCl ws H) (hD : va_D A ws) (hS : va_S A H0 H locs) (q0 : Nat) {fs : List Value} {x : Nat} (he : ws[q0]? = some (a, .inr (0, fs))) (hl : 0 < fs.length) (hdg : decode cc pc = .ok (.putfield 9, 3)) (kk : ∀ (H1 : Heap) (locs1 : List Loc), va_P D vwCl (ws.set q0 (a, .inr (0, fs.set 0 (.ref x)))) H1 → va_D A (ws.set q0 (a, .inr (0, fs.set 0 (.ref x)))) → va_S A H0 H1 locs1 → W p l e R s m args below meth c H1 locs1 cells slots Q (F0 m (pc + 3) ls rest)) : W p l e R s m args below meth c H locs cells slots Q (F0 m pc ls (.ref x :: .ref a :: rest)) := va_putF (C := RX0) (T := TX0) (N := 2) (ty := (.array .int)) hx hb hg gn_X0 tyX0 tyX0_ok nmX0 hown hK hP hD hS q0 he rfl 0 (by decide) (hg _ wd_fl_X0_9) (fun _ h9 => h9) rfl hin rfl (by decide +kernel) rfl rfl hl hdg kk
theorem wd_fl_X0_15 : Cond.fieldLink RX0 15 "FormFinds$NoteRow" "size" "I" ∈ GW := gw_at 65 (by decide +kernel) (by decide +kernel)
theorem gf_X0_15 (hx : p.tables.exec = Jvm.exec) (hb : c.code = cc) (hg : ∀ w ∈ GW, w.before args s = true) (hown : s.vm.findClass RX0 = some m.cls) (hK : va_K D vwCl tys s) (hP : va_P D vwCl ws H) (q0 : Nat) {fs : List Value} (he : ws[q0]? = some (a, .inr (1, fs))) {v : Value} (hv : fs[2]? = some v) (hdg : decode cc pc = .ok (.getfield 15, 3)) (kk : W p l e R s m args below meth c H locs cells slots Q (F0 m (pc + 3) ls (v :: rest))) : W p l e R s m args below meth c H locs cells slots Q (F0 m pc ls (.ref a :: rest)) := va_get (C := RX1) (T := TX1) (N := 3) hx hb hg gn_X1 hown hK hP q0 he rfl 2 (by decide) (hg _ wd_fl_X0_15) (fun _ h9 => h9) hv hdg kk
theorem wd_fl_X0_21 : Cond.fieldLink RX0 21 "FormFinds$NoteRow" "pitches" "[I" ∈ GW := gw_at 57 (by decide +kernel) (by decide +kernel)
theorem gf_X0_21 (hx : p.tables.exec = Jvm.exec) (hb : c.code = cc) (hg : ∀ w ∈ GW, w.before args s = true) (hown : s.vm.findClass RX0 = some m.cls) (hK : va_K D vwCl tys s) (hP : va_P D vwCl ws H) (q0 : Nat) {fs : List Value} (he : ws[q0]? = some (a, .inr (1, fs))) {v : Value} (hv : fs[0]? = some v) (hdg : decode cc pc = .ok (.getfield 21, 3)) (kk : W p l e R s m args below meth c H locs cells slots Q (F0 m (pc + 3) ls (v :: rest))) : W p l e R s m args below meth c H locs cells slots Q (F0 m pc ls (.ref a :: rest)) := va_get (C := RX1) (T := TX1) (N := 3) hx hb hg gn_X1 hown hK hP q0 he rfl 0 (by decide) (hg _ wd_fl_X0_21) (fun _ h9 => h9) hv hdg kk
theorem wd_fl_X0_33 : Cond.fieldLink RX0 33 "FormFinds$NoteRow" "lengths" "[I" ∈ GW := gw_at 60 (by decide +kernel) (by decide +kernel)
theorem gf_X0_33 (hx : p.tables.exec = Jvm.exec) (hb : c.code = cc) (hg : ∀ w ∈ GW, w.before args s = true) (hown : s.vm.findClass RX0 = some m.cls) (hK : va_K D vwCl tys s) (hP : va_P D vwCl ws H) (q0 : Nat) {fs : List Value} (he : ws[q0]? = some (a, .inr (1, fs))) {v : Value} (hv : fs[1]? = some v) (hdg : decode cc pc = .ok (.getfield 33, 3)) (kk : W p l e R s m args below meth c H locs cells slots Q (F0 m (pc + 3) ls (v :: rest))) : W p l e R s m args below meth c H locs cells slots Q (F0 m pc ls (.ref a :: rest)) := va_get (C := RX1) (T := TX1) (N := 3) hx hb hg gn_X1 hown hK hP q0 he rfl 1 (by decide) (hg _ wd_fl_X0_33) (fun _ h9 => h9) hv hdg kk
theorem wd_fl_X0_40 : Cond.fieldLink RX0 40 "FormFinds$ItemRow" "size" "I" ∈ GW := gw_at 81 (by decide +kernel) (by decide +kernel)
theorem gf_X0_40 (hx : p.tables.exec = Jvm.exec) (hb : c.code = cc) (hg : ∀ w ∈ GW, w.before args s = true) (hown : s.vm.findClass RX0 = some m.cls) (hK : va_K D vwCl tys s) (hP : va_P D vwCl ws H) (q0 : Nat) {fs : List Value} (he : ws[q0]? = some (a, .inr (0, fs))) {v : Value} (hv : fs[1]? = some v) (hdg : decode cc pc = .ok (.getfield 40, 3)) (kk : W p l e R s m args below meth c H locs cells slots Q (F0 m (pc + 3) ls (v :: rest))) : W p l e R s m args below meth c H locs cells slots Q (F0 m pc ls (.ref a :: rest)) := va_get (C := RX0) (T := TX0) (N := 2) hx hb hg gn_X0 hown hK hP q0 he rfl 1 (by decide) (hg _ wd_fl_X0_40) (fun _ h9 => h9) hv hdg kk
theorem pf_X0_40 (hx : p.tables.exec = Jvm.exec) (hb : c.code = cc) (hg : ∀ w ∈ GW, w.before args s = true) (hown : s.vm.findClass RX0 = some m.cls) (hK : va_K D vwCl tys s) (hP : va_P D vwCl ws H) (hD : va_D A ws) (hS : va_S A H0 H locs) (q0 : Nat) {fs : List Value} {x : Int32} (he : ws[q0]? = some (a, .inr (0, fs))) (hl : 1 < fs.length) (hdg : decode cc pc = .ok (.putfield 40, 3)) (kk : ∀ (H1 : Heap) (locs1 : List Loc), va_P D vwCl (ws.set q0 (a, .inr (0, fs.set 1 (.int x)))) H1 → va_D A (ws.set q0 (a, .inr (0, fs.set 1 (.int x)))) → va_S A H0 H1 locs1 → W p l e R s m args below meth c H1 locs1 cells slots Q (F0 m (pc + 3) ls rest)) : W p l e R s m args below meth c H locs cells slots Q (F0 m pc ls (.int x :: .ref a :: rest)) := va_put (C := RX0) (T := TX0) (N := 2) (ty := .int) hx hb hg gn_X0 tyX0 tyX0_ok nmX0 hown hK hP hD hS q0 he rfl 1 (by decide) (hg _ wd_fl_X0_40) (fun _ h9 => h9) rfl (by decide +kernel) rfl rfl hl hdg kk
theorem wd_fl_X1_9 : Cond.fieldLink RX1 9 "FormFinds$NoteRow" "pitches" "[I" ∈ GW := gw_at 55 (by decide +kernel) (by decide +kernel)
theorem gf_X1_9 (hx : p.tables.exec = Jvm.exec) (hb : c.code = cc) (hg : ∀ w ∈ GW, w.before args s = true) (hown : s.vm.findClass RX1 = some m.cls) (hK : va_K D vwCl tys s) (hP : va_P D vwCl ws H) (q0 : Nat) {fs : List Value} (he : ws[q0]? = some (a, .inr (1, fs))) {v : Value} (hv : fs[0]? = some v) (hdg : decode cc pc = .ok (.getfield 9, 3)) (kk : W p l e R s m args below meth c H locs cells slots Q (F0 m (pc + 3) ls (v :: rest))) : W p l e R s m args below meth c H locs cells slots Q (F0 m pc ls (.ref a :: rest)) := va_get (C := RX1) (T := TX1) (N := 3) hx hb hg gn_X1 hown hK hP q0 he rfl 0 (by decide) (hg _ wd_fl_X1_9) (fun _ h9 => h9) hv hdg kk
theorem pf_X1_9 (hx : p.tables.exec = Jvm.exec) (hb : c.code = cc) (hg : ∀ w ∈ GW, w.before args s = true) (hown : s.vm.findClass RX1 = some m.cls) (hin : meth.name = "<init>") (hK : va_K D vwCl tys s) (hP : va_P D vwCl ws H) (hD : va_D A ws) (hS : va_S A H0 H locs) (q0 : Nat) {fs : List Value} {x : Nat} (he : ws[q0]? = some (a, .inr (1, fs))) (hl : 0 < fs.length) (hdg : decode cc pc = .ok (.putfield 9, 3)) (kk : ∀ (H1 : Heap) (locs1 : List Loc), va_P D vwCl (ws.set q0 (a, .inr (1, fs.set 0 (.ref x)))) H1 → va_D A (ws.set q0 (a, .inr (1, fs.set 0 (.ref x)))) → va_S A H0 H1 locs1 → W p l e R s m args below meth c H1 locs1 cells slots Q (F0 m (pc + 3) ls rest)) : W p l e R s m args below meth c H locs cells slots Q (F0 m pc ls (.ref x :: .ref a :: rest)) := va_putF (C := RX1) (T := TX1) (N := 3) (ty := (.array .int)) hx hb hg gn_X1 tyX1 tyX1_ok nmX1 hown hK hP hD hS q0 he rfl 0 (by decide) (hg _ wd_fl_X1_9) (fun _ h9 => h9) rfl hin rfl (by decide +kernel) rfl rfl hl hdg kk
theorem wd_fl_X1_15 : Cond.fieldLink RX1 15 "FormFinds$NoteRow" "lengths" "[I" ∈ GW := gw_at 59 (by decide +kernel) (by decide +kernel)
theorem gf_X1_15 (hx : p.tables.exec = Jvm.exec) (hb : c.code = cc) (hg : ∀ w ∈ GW, w.before args s = true) (hown : s.vm.findClass RX1 = some m.cls) (hK : va_K D vwCl tys s) (hP : va_P D vwCl ws H) (q0 : Nat) {fs : List Value} (he : ws[q0]? = some (a, .inr (1, fs))) {v : Value} (hv : fs[1]? = some v) (hdg : decode cc pc = .ok (.getfield 15, 3)) (kk : W p l e R s m args below meth c H locs cells slots Q (F0 m (pc + 3) ls (v :: rest))) : W p l e R s m args below meth c H locs cells slots Q (F0 m pc ls (.ref a :: rest)) := va_get (C := RX1) (T := TX1) (N := 3) hx hb hg gn_X1 hown hK hP q0 he rfl 1 (by decide) (hg _ wd_fl_X1_15) (fun _ h9 => h9) hv hdg kk
theorem pf_X1_15 (hx : p.tables.exec = Jvm.exec) (hb : c.code = cc) (hg : ∀ w ∈ GW, w.before args s = true) (hown : s.vm.findClass RX1 = some m.cls) (hin : meth.name = "<init>") (hK : va_K D vwCl tys s) (hP : va_P D vwCl ws H) (hD : va_D A ws) (hS : va_S A H0 H locs) (q0 : Nat) {fs : List Value} {x : Nat} (he : ws[q0]? = some (a, .inr (1, fs))) (hl : 1 < fs.length) (hdg : decode cc pc = .ok (.putfield 15, 3)) (kk : ∀ (H1 : Heap) (locs1 : List Loc), va_P D vwCl (ws.set q0 (a, .inr (1, fs.set 1 (.ref x)))) H1 → va_D A (ws.set q0 (a, .inr (1, fs.set 1 (.ref x)))) → va_S A H0 H1 locs1 → W p l e R s m args below meth c H1 locs1 cells slots Q (F0 m (pc + 3) ls rest)) : W p l e R s m args below meth c H locs cells slots Q (F0 m pc ls (.ref x :: .ref a :: rest)) := va_putF (C := RX1) (T := TX1) (N := 3) (ty := (.array .int)) hx hb hg gn_X1 tyX1 tyX1_ok nmX1 hown hK hP hD hS q0 he rfl 1 (by decide) (hg _ wd_fl_X1_15) (fun _ h9 => h9) rfl hin rfl (by decide +kernel) rfl rfl hl hdg kk
theorem wd_fl_X1_18 : Cond.fieldLink RX1 18 "FormFinds$NoteRow" "size" "I" ∈ GW := gw_at 62 (by decide +kernel) (by decide +kernel)
theorem gf_X1_18 (hx : p.tables.exec = Jvm.exec) (hb : c.code = cc) (hg : ∀ w ∈ GW, w.before args s = true) (hown : s.vm.findClass RX1 = some m.cls) (hK : va_K D vwCl tys s) (hP : va_P D vwCl ws H) (q0 : Nat) {fs : List Value} (he : ws[q0]? = some (a, .inr (1, fs))) {v : Value} (hv : fs[2]? = some v) (hdg : decode cc pc = .ok (.getfield 18, 3)) (kk : W p l e R s m args below meth c H locs cells slots Q (F0 m (pc + 3) ls (v :: rest))) : W p l e R s m args below meth c H locs cells slots Q (F0 m pc ls (.ref a :: rest)) := va_get (C := RX1) (T := TX1) (N := 3) hx hb hg gn_X1 hown hK hP q0 he rfl 2 (by decide) (hg _ wd_fl_X1_18) (fun _ h9 => h9) hv hdg kk
theorem pf_X1_18 (hx : p.tables.exec = Jvm.exec) (hb : c.code = cc) (hg : ∀ w ∈ GW, w.before args s = true) (hown : s.vm.findClass RX1 = some m.cls) (hK : va_K D vwCl tys s) (hP : va_P D vwCl ws H) (hD : va_D A ws) (hS : va_S A H0 H locs) (q0 : Nat) {fs : List Value} {x : Int32} (he : ws[q0]? = some (a, .inr (1, fs))) (hl : 2 < fs.length) (hdg : decode cc pc = .ok (.putfield 18, 3)) (kk : ∀ (H1 : Heap) (locs1 : List Loc), va_P D vwCl (ws.set q0 (a, .inr (1, fs.set 2 (.int x)))) H1 → va_D A (ws.set q0 (a, .inr (1, fs.set 2 (.int x)))) → va_S A H0 H1 locs1 → W p l e R s m args below meth c H1 locs1 cells slots Q (F0 m (pc + 3) ls rest)) : W p l e R s m args below meth c H locs cells slots Q (F0 m pc ls (.int x :: .ref a :: rest)) := va_put (C := RX1) (T := TX1) (N := 3) (ty := .int) hx hb hg gn_X1 tyX1 tyX1_ok nmX1 hown hK hP hD hS q0 he rfl 2 (by decide) (hg _ wd_fl_X1_18) (fun _ h9 => h9) rfl (by decide +kernel) rfl rfl hl hdg kk
theorem wd_fl_X2_9 : Cond.fieldLink RX2 9 "FormFinds$Parting" "starts" "[I" ∈ GW := gw_at 126 (by decide +kernel) (by decide +kernel)
theorem gf_X2_9 (hx : p.tables.exec = Jvm.exec) (hb : c.code = cc) (hg : ∀ w ∈ GW, w.before args s = true) (hown : s.vm.findClass RX2 = some m.cls) (hK : va_K D vwCl tys s) (hP : va_P D vwCl ws H) (q0 : Nat) {fs : List Value} (he : ws[q0]? = some (a, .inr (2, fs))) {v : Value} (hv : fs[0]? = some v) (hdg : decode cc pc = .ok (.getfield 9, 3)) (kk : W p l e R s m args below meth c H locs cells slots Q (F0 m (pc + 3) ls (v :: rest))) : W p l e R s m args below meth c H locs cells slots Q (F0 m pc ls (.ref a :: rest)) := va_get (C := RX2) (T := TX2) (N := 6) hx hb hg gn_X2 hown hK hP q0 he rfl 0 (by decide) (hg _ wd_fl_X2_9) (fun _ h9 => h9) hv hdg kk
theorem pf_X2_9 (hx : p.tables.exec = Jvm.exec) (hb : c.code = cc) (hg : ∀ w ∈ GW, w.before args s = true) (hown : s.vm.findClass RX2 = some m.cls) (hin : meth.name = "<init>") (hK : va_K D vwCl tys s) (hP : va_P D vwCl ws H) (hD : va_D A ws) (hS : va_S A H0 H locs) (q0 : Nat) {fs : List Value} {x : Nat} (he : ws[q0]? = some (a, .inr (2, fs))) (hl : 0 < fs.length) (hdg : decode cc pc = .ok (.putfield 9, 3)) (kk : ∀ (H1 : Heap) (locs1 : List Loc), va_P D vwCl (ws.set q0 (a, .inr (2, fs.set 0 (.ref x)))) H1 → va_D A (ws.set q0 (a, .inr (2, fs.set 0 (.ref x)))) → va_S A H0 H1 locs1 → W p l e R s m args below meth c H1 locs1 cells slots Q (F0 m (pc + 3) ls rest)) : W p l e R s m args below meth c H locs cells slots Q (F0 m pc ls (.ref x :: .ref a :: rest)) := va_putF (C := RX2) (T := TX2) (N := 6) (ty := (.array .int)) hx hb hg gn_X2 tyX2 tyX2_ok nmX2 hown hK hP hD hS q0 he rfl 0 (by decide) (hg _ wd_fl_X2_9) (fun _ h9 => h9) rfl hin rfl (by decide +kernel) rfl rfl hl hdg kk
theorem wd_fl_X2_15 : Cond.fieldLink RX2 15 "FormFinds$Parting" "leastCost" "[I" ∈ GW := gw_at 132 (by decide +kernel) (by decide +kernel)
theorem gf_X2_15 (hx : p.tables.exec = Jvm.exec) (hb : c.code = cc) (hg : ∀ w ∈ GW, w.before args s = true) (hown : s.vm.findClass RX2 = some m.cls) (hK : va_K D vwCl tys s) (hP : va_P D vwCl ws H) (q0 : Nat) {fs : List Value} (he : ws[q0]? = some (a, .inr (2, fs))) {v : Value} (hv : fs[3]? = some v) (hdg : decode cc pc = .ok (.getfield 15, 3)) (kk : W p l e R s m args below meth c H locs cells slots Q (F0 m (pc + 3) ls (v :: rest))) : W p l e R s m args below meth c H locs cells slots Q (F0 m pc ls (.ref a :: rest)) := va_get (C := RX2) (T := TX2) (N := 6) hx hb hg gn_X2 hown hK hP q0 he rfl 3 (by decide) (hg _ wd_fl_X2_15) (fun _ h9 => h9) hv hdg kk
theorem pf_X2_15 (hx : p.tables.exec = Jvm.exec) (hb : c.code = cc) (hg : ∀ w ∈ GW, w.before args s = true) (hown : s.vm.findClass RX2 = some m.cls) (hin : meth.name = "<init>") (hK : va_K D vwCl tys s) (hP : va_P D vwCl ws H) (hD : va_D A ws) (hS : va_S A H0 H locs) (q0 : Nat) {fs : List Value} {x : Nat} (he : ws[q0]? = some (a, .inr (2, fs))) (hl : 3 < fs.length) (hdg : decode cc pc = .ok (.putfield 15, 3)) (kk : ∀ (H1 : Heap) (locs1 : List Loc), va_P D vwCl (ws.set q0 (a, .inr (2, fs.set 3 (.ref x)))) H1 → va_D A (ws.set q0 (a, .inr (2, fs.set 3 (.ref x)))) → va_S A H0 H1 locs1 → W p l e R s m args below meth c H1 locs1 cells slots Q (F0 m (pc + 3) ls rest)) : W p l e R s m args below meth c H locs cells slots Q (F0 m pc ls (.ref x :: .ref a :: rest)) := va_putF (C := RX2) (T := TX2) (N := 6) (ty := (.array .int)) hx hb hg gn_X2 tyX2 tyX2_ok nmX2 hown hK hP hD hS q0 he rfl 3 (by decide) (hg _ wd_fl_X2_15) (fun _ h9 => h9) rfl hin rfl (by decide +kernel) rfl rfl hl hdg kk
theorem wd_fl_X2_18 : Cond.fieldLink RX2 18 "FormFinds$Parting" "fewest" "[I" ∈ GW := gw_at 133 (by decide +kernel) (by decide +kernel)
theorem gf_X2_18 (hx : p.tables.exec = Jvm.exec) (hb : c.code = cc) (hg : ∀ w ∈ GW, w.before args s = true) (hown : s.vm.findClass RX2 = some m.cls) (hK : va_K D vwCl tys s) (hP : va_P D vwCl ws H) (q0 : Nat) {fs : List Value} (he : ws[q0]? = some (a, .inr (2, fs))) {v : Value} (hv : fs[4]? = some v) (hdg : decode cc pc = .ok (.getfield 18, 3)) (kk : W p l e R s m args below meth c H locs cells slots Q (F0 m (pc + 3) ls (v :: rest))) : W p l e R s m args below meth c H locs cells slots Q (F0 m pc ls (.ref a :: rest)) := va_get (C := RX2) (T := TX2) (N := 6) hx hb hg gn_X2 hown hK hP q0 he rfl 4 (by decide) (hg _ wd_fl_X2_18) (fun _ h9 => h9) hv hdg kk
theorem pf_X2_18 (hx : p.tables.exec = Jvm.exec) (hb : c.code = cc) (hg : ∀ w ∈ GW, w.before args s = true) (hown : s.vm.findClass RX2 = some m.cls) (hin : meth.name = "<init>") (hK : va_K D vwCl tys s) (hP : va_P D vwCl ws H) (hD : va_D A ws) (hS : va_S A H0 H locs) (q0 : Nat) {fs : List Value} {x : Nat} (he : ws[q0]? = some (a, .inr (2, fs))) (hl : 4 < fs.length) (hdg : decode cc pc = .ok (.putfield 18, 3)) (kk : ∀ (H1 : Heap) (locs1 : List Loc), va_P D vwCl (ws.set q0 (a, .inr (2, fs.set 4 (.ref x)))) H1 → va_D A (ws.set q0 (a, .inr (2, fs.set 4 (.ref x)))) → va_S A H0 H1 locs1 → W p l e R s m args below meth c H1 locs1 cells slots Q (F0 m (pc + 3) ls rest)) : W p l e R s m args below meth c H locs cells slots Q (F0 m pc ls (.ref x :: .ref a :: rest)) := va_putF (C := RX2) (T := TX2) (N := 6) (ty := (.array .int)) hx hb hg gn_X2 tyX2 tyX2_ok nmX2 hown hK hP hD hS q0 he rfl 4 (by decide) (hg _ wd_fl_X2_18) (fun _ h9 => h9) rfl hin rfl (by decide +kernel) rfl rfl hl hdg kk
theorem wd_fl_X2_21 : Cond.fieldLink RX2 21 "FormFinds$Parting" "firstEnd" "[I" ∈ GW := gw_at 134 (by decide +kernel) (by decide +kernel)
theorem gf_X2_21 (hx : p.tables.exec = Jvm.exec) (hb : c.code = cc) (hg : ∀ w ∈ GW, w.before args s = true) (hown : s.vm.findClass RX2 = some m.cls) (hK : va_K D vwCl tys s) (hP : va_P D vwCl ws H) (q0 : Nat) {fs : List Value} (he : ws[q0]? = some (a, .inr (2, fs))) {v : Value} (hv : fs[5]? = some v) (hdg : decode cc pc = .ok (.getfield 21, 3)) (kk : W p l e R s m args below meth c H locs cells slots Q (F0 m (pc + 3) ls (v :: rest))) : W p l e R s m args below meth c H locs cells slots Q (F0 m pc ls (.ref a :: rest)) := va_get (C := RX2) (T := TX2) (N := 6) hx hb hg gn_X2 hown hK hP q0 he rfl 5 (by decide) (hg _ wd_fl_X2_21) (fun _ h9 => h9) hv hdg kk
theorem pf_X2_21 (hx : p.tables.exec = Jvm.exec) (hb : c.code = cc) (hg : ∀ w ∈ GW, w.before args s = true) (hown : s.vm.findClass RX2 = some m.cls) (hin : meth.name = "<init>") (hK : va_K D vwCl tys s) (hP : va_P D vwCl ws H) (hD : va_D A ws) (hS : va_S A H0 H locs) (q0 : Nat) {fs : List Value} {x : Nat} (he : ws[q0]? = some (a, .inr (2, fs))) (hl : 5 < fs.length) (hdg : decode cc pc = .ok (.putfield 21, 3)) (kk : ∀ (H1 : Heap) (locs1 : List Loc), va_P D vwCl (ws.set q0 (a, .inr (2, fs.set 5 (.ref x)))) H1 → va_D A (ws.set q0 (a, .inr (2, fs.set 5 (.ref x)))) → va_S A H0 H1 locs1 → W p l e R s m args below meth c H1 locs1 cells slots Q (F0 m (pc + 3) ls rest)) : W p l e R s m args below meth c H locs cells slots Q (F0 m pc ls (.ref x :: .ref a :: rest)) := va_putF (C := RX2) (T := TX2) (N := 6) (ty := (.array .int)) hx hb hg gn_X2 tyX2 tyX2_ok nmX2 hown hK hP hD hS q0 he rfl 5 (by decide) (hg _ wd_fl_X2_21) (fun _ h9 => h9) rfl hin rfl (by decide +kernel) rfl rfl hl hdg kk
theorem wd_fl_X2_24 : Cond.fieldLink RX2 24 "FormFinds$NoteRow" "size" "I" ∈ GW := gw_at 64 (by decide +kernel) (by decide +kernel)
theorem gf_X2_24 (hx : p.tables.exec = Jvm.exec) (hb : c.code = cc) (hg : ∀ w ∈ GW, w.before args s = true) (hown : s.vm.findClass RX2 = some m.cls) (hK : va_K D vwCl tys s) (hP : va_P D vwCl ws H) (q0 : Nat) {fs : List Value} (he : ws[q0]? = some (a, .inr (1, fs))) {v : Value} (hv : fs[2]? = some v) (hdg : decode cc pc = .ok (.getfield 24, 3)) (kk : W p l e R s m args below meth c H locs cells slots Q (F0 m (pc + 3) ls (v :: rest))) : W p l e R s m args below meth c H locs cells slots Q (F0 m pc ls (.ref a :: rest)) := va_get (C := RX1) (T := TX1) (N := 3) hx hb hg gn_X1 hown hK hP q0 he rfl 2 (by decide) (hg _ wd_fl_X2_24) (fun _ h9 => h9) hv hdg kk
theorem wd_fl_X2_34 : Cond.fieldLink RX2 34 "FormFinds$Parting" "cost" "I" ∈ GW := gw_at 131 (by decide +kernel) (by decide +kernel)
theorem pf_X2_34 (hx : p.tables.exec = Jvm.exec) (hb : c.code = cc) (hg : ∀ w ∈ GW, w.before args s = true) (hown : s.vm.findClass RX2 = some m.cls) (hK : va_K D vwCl tys s) (hP : va_P D vwCl ws H) (hD : va_D A ws) (hS : va_S A H0 H locs) (q0 : Nat) {fs : List Value} {x : Int32} (he : ws[q0]? = some (a, .inr (2, fs))) (hl : 2 < fs.length) (hdg : decode cc pc = .ok (.putfield 34, 3)) (kk : ∀ (H1 : Heap) (locs1 : List Loc), va_P D vwCl (ws.set q0 (a, .inr (2, fs.set 2 (.int x)))) H1 → va_D A (ws.set q0 (a, .inr (2, fs.set 2 (.int x)))) → va_S A H0 H1 locs1 → W p l e R s m args below meth c H1 locs1 cells slots Q (F0 m (pc + 3) ls rest)) : W p l e R s m args below meth c H locs cells slots Q (F0 m pc ls (.int x :: .ref a :: rest)) := va_put (C := RX2) (T := TX2) (N := 6) (ty := .int) hx hb hg gn_X2 tyX2 tyX2_ok nmX2 hown hK hP hD hS q0 he rfl 2 (by decide) (hg _ wd_fl_X2_34) (fun _ h9 => h9) rfl (by decide +kernel) rfl rfl hl hdg kk
theorem wd_fl_X2_37 : Cond.fieldLink RX2 37 "FormFinds$Parting" "size" "I" ∈ GW := gw_at 129 (by decide +kernel) (by decide +kernel)
theorem gf_X2_37 (hx : p.tables.exec = Jvm.exec) (hb : c.code = cc) (hg : ∀ w ∈ GW, w.before args s = true) (hown : s.vm.findClass RX2 = some m.cls) (hK : va_K D vwCl tys s) (hP : va_P D vwCl ws H) (q0 : Nat) {fs : List Value} (he : ws[q0]? = some (a, .inr (2, fs))) {v : Value} (hv : fs[1]? = some v) (hdg : decode cc pc = .ok (.getfield 37, 3)) (kk : W p l e R s m args below meth c H locs cells slots Q (F0 m (pc + 3) ls (v :: rest))) : W p l e R s m args below meth c H locs cells slots Q (F0 m pc ls (.ref a :: rest)) := va_get (C := RX2) (T := TX2) (N := 6) hx hb hg gn_X2 hown hK hP q0 he rfl 1 (by decide) (hg _ wd_fl_X2_37) (fun _ h9 => h9) hv hdg kk
theorem pf_X2_37 (hx : p.tables.exec = Jvm.exec) (hb : c.code = cc) (hg : ∀ w ∈ GW, w.before args s = true) (hown : s.vm.findClass RX2 = some m.cls) (hK : va_K D vwCl tys s) (hP : va_P D vwCl ws H) (hD : va_D A ws) (hS : va_S A H0 H locs) (q0 : Nat) {fs : List Value} {x : Int32} (he : ws[q0]? = some (a, .inr (2, fs))) (hl : 1 < fs.length) (hdg : decode cc pc = .ok (.putfield 37, 3)) (kk : ∀ (H1 : Heap) (locs1 : List Loc), va_P D vwCl (ws.set q0 (a, .inr (2, fs.set 1 (.int x)))) H1 → va_D A (ws.set q0 (a, .inr (2, fs.set 1 (.int x)))) → va_S A H0 H1 locs1 → W p l e R s m args below meth c H1 locs1 cells slots Q (F0 m (pc + 3) ls rest)) : W p l e R s m args below meth c H locs cells slots Q (F0 m pc ls (.int x :: .ref a :: rest)) := va_put (C := RX2) (T := TX2) (N := 6) (ty := .int) hx hb hg gn_X2 tyX2 tyX2_ok nmX2 hown hK hP hD hS q0 he rfl 1 (by decide) (hg _ wd_fl_X2_37) (fun _ h9 => h9) rfl (by decide +kernel) rfl rfl hl hdg kk
theorem wd_fl_X2_38 : Cond.fieldLink RX2 38 "FormFinds$NoteRow" "pitches" "[I" ∈ GW := gw_at 56 (by decide +kernel) (by decide +kernel)
theorem gf_X2_38 (hx : p.tables.exec = Jvm.exec) (hb : c.code = cc) (hg : ∀ w ∈ GW, w.before args s = true) (hown : s.vm.findClass RX2 = some m.cls) (hK : va_K D vwCl tys s) (hP : va_P D vwCl ws H) (q0 : Nat) {fs : List Value} (he : ws[q0]? = some (a, .inr (1, fs))) {v : Value} (hv : fs[0]? = some v) (hdg : decode cc pc = .ok (.getfield 38, 3)) (kk : W p l e R s m args below meth c H locs cells slots Q (F0 m (pc + 3) ls (v :: rest))) : W p l e R s m args below meth c H locs cells slots Q (F0 m pc ls (.ref a :: rest)) := va_get (C := RX1) (T := TX1) (N := 3) hx hb hg gn_X1 hown hK hP q0 he rfl 0 (by decide) (hg _ wd_fl_X2_38) (fun _ h9 => h9) hv hdg kk
theorem wd_fl_X3_9 : Cond.fieldLink RX3 9 "FormFinds$PlaceList" "starts" "[I" ∈ GW := gw_at 111 (by decide +kernel) (by decide +kernel)
theorem gf_X3_9 (hx : p.tables.exec = Jvm.exec) (hb : c.code = cc) (hg : ∀ w ∈ GW, w.before args s = true) (hown : s.vm.findClass RX3 = some m.cls) (hK : va_K D vwCl tys s) (hP : va_P D vwCl ws H) (q0 : Nat) {fs : List Value} (he : ws[q0]? = some (a, .inr (3, fs))) {v : Value} (hv : fs[0]? = some v) (hdg : decode cc pc = .ok (.getfield 9, 3)) (kk : W p l e R s m args below meth c H locs cells slots Q (F0 m (pc + 3) ls (v :: rest))) : W p l e R s m args below meth c H locs cells slots Q (F0 m pc ls (.ref a :: rest)) := va_get (C := RX3) (T := TX3) (N := 2) hx hb hg gn_X3 hown hK hP q0 he rfl 0 (by decide) (hg _ wd_fl_X3_9) (fun _ h9 => h9) hv hdg kk
theorem pf_X3_9 (hx : p.tables.exec = Jvm.exec) (hb : c.code = cc) (hg : ∀ w ∈ GW, w.before args s = true) (hown : s.vm.findClass RX3 = some m.cls) (hin : meth.name = "<init>") (hK : va_K D vwCl tys s) (hP : va_P D vwCl ws H) (hD : va_D A ws) (hS : va_S A H0 H locs) (q0 : Nat) {fs : List Value} {x : Nat} (he : ws[q0]? = some (a, .inr (3, fs))) (hl : 0 < fs.length) (hdg : decode cc pc = .ok (.putfield 9, 3)) (kk : ∀ (H1 : Heap) (locs1 : List Loc), va_P D vwCl (ws.set q0 (a, .inr (3, fs.set 0 (.ref x)))) H1 → va_D A (ws.set q0 (a, .inr (3, fs.set 0 (.ref x)))) → va_S A H0 H1 locs1 → W p l e R s m args below meth c H1 locs1 cells slots Q (F0 m (pc + 3) ls rest)) : W p l e R s m args below meth c H locs cells slots Q (F0 m pc ls (.ref x :: .ref a :: rest)) := va_putF (C := RX3) (T := TX3) (N := 2) (ty := (.array .int)) hx hb hg gn_X3 tyX3 tyX3_ok nmX3 hown hK hP hD hS q0 he rfl 0 (by decide) (hg _ wd_fl_X3_9) (fun _ h9 => h9) rfl hin rfl (by decide +kernel) rfl rfl hl hdg kk
theorem wd_fl_X3_15 : Cond.fieldLink RX3 15 "FormFinds$PlaceList" "size" "I" ∈ GW := gw_at 113 (by decide +kernel) (by decide +kernel)
theorem gf_X3_15 (hx : p.tables.exec = Jvm.exec) (hb : c.code = cc) (hg : ∀ w ∈ GW, w.before args s = true) (hown : s.vm.findClass RX3 = some m.cls) (hK : va_K D vwCl tys s) (hP : va_P D vwCl ws H) (q0 : Nat) {fs : List Value} (he : ws[q0]? = some (a, .inr (3, fs))) {v : Value} (hv : fs[1]? = some v) (hdg : decode cc pc = .ok (.getfield 15, 3)) (kk : W p l e R s m args below meth c H locs cells slots Q (F0 m (pc + 3) ls (v :: rest))) : W p l e R s m args below meth c H locs cells slots Q (F0 m pc ls (.ref a :: rest)) := va_get (C := RX3) (T := TX3) (N := 2) hx hb hg gn_X3 hown hK hP q0 he rfl 1 (by decide) (hg _ wd_fl_X3_15) (fun _ h9 => h9) hv hdg kk
theorem pf_X3_15 (hx : p.tables.exec = Jvm.exec) (hb : c.code = cc) (hg : ∀ w ∈ GW, w.before args s = true) (hown : s.vm.findClass RX3 = some m.cls) (hK : va_K D vwCl tys s) (hP : va_P D vwCl ws H) (hD : va_D A ws) (hS : va_S A H0 H locs) (q0 : Nat) {fs : List Value} {x : Int32} (he : ws[q0]? = some (a, .inr (3, fs))) (hl : 1 < fs.length) (hdg : decode cc pc = .ok (.putfield 15, 3)) (kk : ∀ (H1 : Heap) (locs1 : List Loc), va_P D vwCl (ws.set q0 (a, .inr (3, fs.set 1 (.int x)))) H1 → va_D A (ws.set q0 (a, .inr (3, fs.set 1 (.int x)))) → va_S A H0 H1 locs1 → W p l e R s m args below meth c H1 locs1 cells slots Q (F0 m (pc + 3) ls rest)) : W p l e R s m args below meth c H locs cells slots Q (F0 m pc ls (.int x :: .ref a :: rest)) := va_put (C := RX3) (T := TX3) (N := 2) (ty := .int) hx hb hg gn_X3 tyX3 tyX3_ok nmX3 hown hK hP hD hS q0 he rfl 1 (by decide) (hg _ wd_fl_X3_15) (fun _ h9 => h9) rfl (by decide +kernel) rfl rfl hl hdg kk
theorem wd_fl_X4_11 : Cond.fieldLink RX4 11 "FormFinds$RepeatList" "parts" "[I" ∈ GW := gw_at 94 (by decide +kernel) (by decide +kernel)
theorem gf_X4_11 (hx : p.tables.exec = Jvm.exec) (hb : c.code = cc) (hg : ∀ w ∈ GW, w.before args s = true) (hown : s.vm.findClass RX4 = some m.cls) (hK : va_K D vwCl tys s) (hP : va_P D vwCl ws H) (q0 : Nat) {fs : List Value} (he : ws[q0]? = some (a, .inr (4, fs))) {v : Value} (hv : fs[0]? = some v) (hdg : decode cc pc = .ok (.getfield 11, 3)) (kk : W p l e R s m args below meth c H locs cells slots Q (F0 m (pc + 3) ls (v :: rest))) : W p l e R s m args below meth c H locs cells slots Q (F0 m pc ls (.ref a :: rest)) := va_get (C := RX4) (T := TX4) (N := 3) hx hb hg gn_X4 hown hK hP q0 he rfl 0 (by decide) (hg _ wd_fl_X4_11) (fun _ h9 => h9) hv hdg kk
theorem pf_X4_11 (hx : p.tables.exec = Jvm.exec) (hb : c.code = cc) (hg : ∀ w ∈ GW, w.before args s = true) (hown : s.vm.findClass RX4 = some m.cls) (hin : meth.name = "<init>") (hK : va_K D vwCl tys s) (hP : va_P D vwCl ws H) (hD : va_D A ws) (hS : va_S A H0 H locs) (q0 : Nat) {fs : List Value} {x : Nat} (he : ws[q0]? = some (a, .inr (4, fs))) (hl : 0 < fs.length) (hdg : decode cc pc = .ok (.putfield 11, 3)) (kk : ∀ (H1 : Heap) (locs1 : List Loc), va_P D vwCl (ws.set q0 (a, .inr (4, fs.set 0 (.ref x)))) H1 → va_D A (ws.set q0 (a, .inr (4, fs.set 0 (.ref x)))) → va_S A H0 H1 locs1 → W p l e R s m args below meth c H1 locs1 cells slots Q (F0 m (pc + 3) ls rest)) : W p l e R s m args below meth c H locs cells slots Q (F0 m pc ls (.ref x :: .ref a :: rest)) := va_putF (C := RX4) (T := TX4) (N := 3) (ty := (.array .int)) hx hb hg gn_X4 tyX4 tyX4_ok nmX4 hown hK hP hD hS q0 he rfl 0 (by decide) (hg _ wd_fl_X4_11) (fun _ h9 => h9) rfl hin rfl (by decide +kernel) rfl rfl hl hdg kk
theorem wd_fl_X4_15 : Cond.fieldLink RX4 15 "FormFinds$RepeatList" "slots" "[I" ∈ GW := gw_at 95 (by decide +kernel) (by decide +kernel)
theorem gf_X4_15 (hx : p.tables.exec = Jvm.exec) (hb : c.code = cc) (hg : ∀ w ∈ GW, w.before args s = true) (hown : s.vm.findClass RX4 = some m.cls) (hK : va_K D vwCl tys s) (hP : va_P D vwCl ws H) (q0 : Nat) {fs : List Value} (he : ws[q0]? = some (a, .inr (4, fs))) {v : Value} (hv : fs[1]? = some v) (hdg : decode cc pc = .ok (.getfield 15, 3)) (kk : W p l e R s m args below meth c H locs cells slots Q (F0 m (pc + 3) ls (v :: rest))) : W p l e R s m args below meth c H locs cells slots Q (F0 m pc ls (.ref a :: rest)) := va_get (C := RX4) (T := TX4) (N := 3) hx hb hg gn_X4 hown hK hP q0 he rfl 1 (by decide) (hg _ wd_fl_X4_15) (fun _ h9 => h9) hv hdg kk
theorem pf_X4_15 (hx : p.tables.exec = Jvm.exec) (hb : c.code = cc) (hg : ∀ w ∈ GW, w.before args s = true) (hown : s.vm.findClass RX4 = some m.cls) (hin : meth.name = "<init>") (hK : va_K D vwCl tys s) (hP : va_P D vwCl ws H) (hD : va_D A ws) (hS : va_S A H0 H locs) (q0 : Nat) {fs : List Value} {x : Nat} (he : ws[q0]? = some (a, .inr (4, fs))) (hl : 1 < fs.length) (hdg : decode cc pc = .ok (.putfield 15, 3)) (kk : ∀ (H1 : Heap) (locs1 : List Loc), va_P D vwCl (ws.set q0 (a, .inr (4, fs.set 1 (.ref x)))) H1 → va_D A (ws.set q0 (a, .inr (4, fs.set 1 (.ref x)))) → va_S A H0 H1 locs1 → W p l e R s m args below meth c H1 locs1 cells slots Q (F0 m (pc + 3) ls rest)) : W p l e R s m args below meth c H locs cells slots Q (F0 m pc ls (.ref x :: .ref a :: rest)) := va_putF (C := RX4) (T := TX4) (N := 3) (ty := (.array .int)) hx hb hg gn_X4 tyX4 tyX4_ok nmX4 hown hK hP hD hS q0 he rfl 1 (by decide) (hg _ wd_fl_X4_15) (fun _ h9 => h9) rfl hin rfl (by decide +kernel) rfl rfl hl hdg kk
theorem wd_fl_X4_28 : Cond.fieldLink RX4 28 "FormFinds$ItemRow" "size" "I" ∈ GW := gw_at 82 (by decide +kernel) (by decide +kernel)
theorem gf_X4_28 (hx : p.tables.exec = Jvm.exec) (hb : c.code = cc) (hg : ∀ w ∈ GW, w.before args s = true) (hown : s.vm.findClass RX4 = some m.cls) (hK : va_K D vwCl tys s) (hP : va_P D vwCl ws H) (q0 : Nat) {fs : List Value} (he : ws[q0]? = some (a, .inr (0, fs))) {v : Value} (hv : fs[1]? = some v) (hdg : decode cc pc = .ok (.getfield 28, 3)) (kk : W p l e R s m args below meth c H locs cells slots Q (F0 m (pc + 3) ls (v :: rest))) : W p l e R s m args below meth c H locs cells slots Q (F0 m pc ls (.ref a :: rest)) := va_get (C := RX0) (T := TX0) (N := 2) hx hb hg gn_X0 hown hK hP q0 he rfl 1 (by decide) (hg _ wd_fl_X4_28) (fun _ h9 => h9) hv hdg kk
theorem wd_fl_X4_38 : Cond.fieldLink RX4 38 "FormFinds$RepeatList" "size" "I" ∈ GW := gw_at 97 (by decide +kernel) (by decide +kernel)
theorem gf_X4_38 (hx : p.tables.exec = Jvm.exec) (hb : c.code = cc) (hg : ∀ w ∈ GW, w.before args s = true) (hown : s.vm.findClass RX4 = some m.cls) (hK : va_K D vwCl tys s) (hP : va_P D vwCl ws H) (q0 : Nat) {fs : List Value} (he : ws[q0]? = some (a, .inr (4, fs))) {v : Value} (hv : fs[2]? = some v) (hdg : decode cc pc = .ok (.getfield 38, 3)) (kk : W p l e R s m args below meth c H locs cells slots Q (F0 m (pc + 3) ls (v :: rest))) : W p l e R s m args below meth c H locs cells slots Q (F0 m pc ls (.ref a :: rest)) := va_get (C := RX4) (T := TX4) (N := 3) hx hb hg gn_X4 hown hK hP q0 he rfl 2 (by decide) (hg _ wd_fl_X4_38) (fun _ h9 => h9) hv hdg kk
theorem pf_X4_38 (hx : p.tables.exec = Jvm.exec) (hb : c.code = cc) (hg : ∀ w ∈ GW, w.before args s = true) (hown : s.vm.findClass RX4 = some m.cls) (hK : va_K D vwCl tys s) (hP : va_P D vwCl ws H) (hD : va_D A ws) (hS : va_S A H0 H locs) (q0 : Nat) {fs : List Value} {x : Int32} (he : ws[q0]? = some (a, .inr (4, fs))) (hl : 2 < fs.length) (hdg : decode cc pc = .ok (.putfield 38, 3)) (kk : ∀ (H1 : Heap) (locs1 : List Loc), va_P D vwCl (ws.set q0 (a, .inr (4, fs.set 2 (.int x)))) H1 → va_D A (ws.set q0 (a, .inr (4, fs.set 2 (.int x)))) → va_S A H0 H1 locs1 → W p l e R s m args below meth c H1 locs1 cells slots Q (F0 m (pc + 3) ls rest)) : W p l e R s m args below meth c H locs cells slots Q (F0 m pc ls (.int x :: .ref a :: rest)) := va_put (C := RX4) (T := TX4) (N := 3) (ty := .int) hx hb hg gn_X4 tyX4 tyX4_ok nmX4 hown hK hP hD hS q0 he rfl 2 (by decide) (hg _ wd_fl_X4_38) (fun _ h9 => h9) rfl (by decide +kernel) rfl rfl hl hdg kk
theorem wd_fl_X6_7 : Cond.fieldLink RX6 7 "FormFindsModel" "pitch" "[I" ∈ GW := gw_at 567 (by decide +kernel) (by decide +kernel)
theorem gf_X6_7 (hx : p.tables.exec = Jvm.exec) (hb : c.code = cc) (hg : ∀ w ∈ GW, w.before args s = true) (hown : s.vm.findClass RX6 = some m.cls) (hK : va_K D vwCl tys s) (hP : va_P D vwCl ws H) (q0 : Nat) {fs : List Value} (he : ws[q0]? = some (a, .inr (6, fs))) {v : Value} (hv : fs[2]? = some v) (hdg : decode cc pc = .ok (.getfield 7, 3)) (kk : W p l e R s m args below meth c H locs cells slots Q (F0 m (pc + 3) ls (v :: rest))) : W p l e R s m args below meth c H locs cells slots Q (F0 m pc ls (.ref a :: rest)) := va_get (C := RX6) (T := TX6) (N := 18) hx hb hg gn_X6 hown hK hP q0 he rfl 2 (by decide) (hg _ wd_fl_X6_7) (fun _ h9 => h9) hv hdg kk
theorem pf_X6_7 (hx : p.tables.exec = Jvm.exec) (hb : c.code = cc) (hg : ∀ w ∈ GW, w.before args s = true) (hown : s.vm.findClass RX6 = some m.cls) (hin : meth.name = "<init>") (hK : va_K D vwCl tys s) (hP : va_P D vwCl ws H) (hD : va_D A ws) (hS : va_S A H0 H locs) (q0 : Nat) {fs : List Value} {x : Nat} (he : ws[q0]? = some (a, .inr (6, fs))) (hl : 2 < fs.length) (hdg : decode cc pc = .ok (.putfield 7, 3)) (kk : ∀ (H1 : Heap) (locs1 : List Loc), va_P D vwCl (ws.set q0 (a, .inr (6, fs.set 2 (.ref x)))) H1 → va_D A (ws.set q0 (a, .inr (6, fs.set 2 (.ref x)))) → va_S A H0 H1 locs1 → W p l e R s m args below meth c H1 locs1 cells slots Q (F0 m (pc + 3) ls rest)) : W p l e R s m args below meth c H locs cells slots Q (F0 m pc ls (.ref x :: .ref a :: rest)) := va_putF (C := RX6) (T := TX6) (N := 18) (ty := (.array .int)) hx hb hg gn_X6 tyX6 tyX6_ok nmX6 hown hK hP hD hS q0 he rfl 2 (by decide) (hg _ wd_fl_X6_7) (fun _ h9 => h9) rfl hin rfl (by decide +kernel) rfl rfl hl hdg kk
theorem wd_fl_X6_13 : Cond.fieldLink RX6 13 "FormFindsModel" "length" "[I" ∈ GW := gw_at 568 (by decide +kernel) (by decide +kernel)
theorem gf_X6_13 (hx : p.tables.exec = Jvm.exec) (hb : c.code = cc) (hg : ∀ w ∈ GW, w.before args s = true) (hown : s.vm.findClass RX6 = some m.cls) (hK : va_K D vwCl tys s) (hP : va_P D vwCl ws H) (q0 : Nat) {fs : List Value} (he : ws[q0]? = some (a, .inr (6, fs))) {v : Value} (hv : fs[3]? = some v) (hdg : decode cc pc = .ok (.getfield 13, 3)) (kk : W p l e R s m args below meth c H locs cells slots Q (F0 m (pc + 3) ls (v :: rest))) : W p l e R s m args below meth c H locs cells slots Q (F0 m pc ls (.ref a :: rest)) := va_get (C := RX6) (T := TX6) (N := 18) hx hb hg gn_X6 hown hK hP q0 he rfl 3 (by decide) (hg _ wd_fl_X6_13) (fun _ h9 => h9) hv hdg kk
theorem pf_X6_13 (hx : p.tables.exec = Jvm.exec) (hb : c.code = cc) (hg : ∀ w ∈ GW, w.before args s = true) (hown : s.vm.findClass RX6 = some m.cls) (hin : meth.name = "<init>") (hK : va_K D vwCl tys s) (hP : va_P D vwCl ws H) (hD : va_D A ws) (hS : va_S A H0 H locs) (q0 : Nat) {fs : List Value} {x : Nat} (he : ws[q0]? = some (a, .inr (6, fs))) (hl : 3 < fs.length) (hdg : decode cc pc = .ok (.putfield 13, 3)) (kk : ∀ (H1 : Heap) (locs1 : List Loc), va_P D vwCl (ws.set q0 (a, .inr (6, fs.set 3 (.ref x)))) H1 → va_D A (ws.set q0 (a, .inr (6, fs.set 3 (.ref x)))) → va_S A H0 H1 locs1 → W p l e R s m args below meth c H1 locs1 cells slots Q (F0 m (pc + 3) ls rest)) : W p l e R s m args below meth c H locs cells slots Q (F0 m pc ls (.ref x :: .ref a :: rest)) := va_putF (C := RX6) (T := TX6) (N := 18) (ty := (.array .int)) hx hb hg gn_X6 tyX6 tyX6_ok nmX6 hown hK hP hD hS q0 he rfl 3 (by decide) (hg _ wd_fl_X6_13) (fun _ h9 => h9) rfl hin rfl (by decide +kernel) rfl rfl hl hdg kk
theorem wd_fl_X6_16 : Cond.fieldLink RX6 16 "FormFindsModel" "repeatRow" "[I" ∈ GW := gw_at 570 (by decide +kernel) (by decide +kernel)
theorem gf_X6_16 (hx : p.tables.exec = Jvm.exec) (hb : c.code = cc) (hg : ∀ w ∈ GW, w.before args s = true) (hown : s.vm.findClass RX6 = some m.cls) (hK : va_K D vwCl tys s) (hP : va_P D vwCl ws H) (q0 : Nat) {fs : List Value} (he : ws[q0]? = some (a, .inr (6, fs))) {v : Value} (hv : fs[5]? = some v) (hdg : decode cc pc = .ok (.getfield 16, 3)) (kk : W p l e R s m args below meth c H locs cells slots Q (F0 m (pc + 3) ls (v :: rest))) : W p l e R s m args below meth c H locs cells slots Q (F0 m pc ls (.ref a :: rest)) := va_get (C := RX6) (T := TX6) (N := 18) hx hb hg gn_X6 hown hK hP q0 he rfl 5 (by decide) (hg _ wd_fl_X6_16) (fun _ h9 => h9) hv hdg kk
theorem pf_X6_16 (hx : p.tables.exec = Jvm.exec) (hb : c.code = cc) (hg : ∀ w ∈ GW, w.before args s = true) (hown : s.vm.findClass RX6 = some m.cls) (hin : meth.name = "<init>") (hK : va_K D vwCl tys s) (hP : va_P D vwCl ws H) (hD : va_D A ws) (hS : va_S A H0 H locs) (q0 : Nat) {fs : List Value} {x : Nat} (he : ws[q0]? = some (a, .inr (6, fs))) (hl : 5 < fs.length) (hdg : decode cc pc = .ok (.putfield 16, 3)) (kk : ∀ (H1 : Heap) (locs1 : List Loc), va_P D vwCl (ws.set q0 (a, .inr (6, fs.set 5 (.ref x)))) H1 → va_D A (ws.set q0 (a, .inr (6, fs.set 5 (.ref x)))) → va_S A H0 H1 locs1 → W p l e R s m args below meth c H1 locs1 cells slots Q (F0 m (pc + 3) ls rest)) : W p l e R s m args below meth c H locs cells slots Q (F0 m pc ls (.ref x :: .ref a :: rest)) := va_putF (C := RX6) (T := TX6) (N := 18) (ty := (.array .int)) hx hb hg gn_X6 tyX6 tyX6_ok nmX6 hown hK hP hD hS q0 he rfl 5 (by decide) (hg _ wd_fl_X6_16) (fun _ h9 => h9) rfl hin rfl (by decide +kernel) rfl rfl hl hdg kk
theorem wd_fl_X6_19 : Cond.fieldLink RX6 19 "FormFindsModel" "motivePitch" "[I" ∈ GW := gw_at 572 (by decide +kernel) (by decide +kernel)
theorem gf_X6_19 (hx : p.tables.exec = Jvm.exec) (hb : c.code = cc) (hg : ∀ w ∈ GW, w.before args s = true) (hown : s.vm.findClass RX6 = some m.cls) (hK : va_K D vwCl tys s) (hP : va_P D vwCl ws H) (q0 : Nat) {fs : List Value} (he : ws[q0]? = some (a, .inr (6, fs))) {v : Value} (hv : fs[7]? = some v) (hdg : decode cc pc = .ok (.getfield 19, 3)) (kk : W p l e R s m args below meth c H locs cells slots Q (F0 m (pc + 3) ls (v :: rest))) : W p l e R s m args below meth c H locs cells slots Q (F0 m pc ls (.ref a :: rest)) := va_get (C := RX6) (T := TX6) (N := 18) hx hb hg gn_X6 hown hK hP q0 he rfl 7 (by decide) (hg _ wd_fl_X6_19) (fun _ h9 => h9) hv hdg kk
theorem pf_X6_19 (hx : p.tables.exec = Jvm.exec) (hb : c.code = cc) (hg : ∀ w ∈ GW, w.before args s = true) (hown : s.vm.findClass RX6 = some m.cls) (hin : meth.name = "<init>") (hK : va_K D vwCl tys s) (hP : va_P D vwCl ws H) (hD : va_D A ws) (hS : va_S A H0 H locs) (q0 : Nat) {fs : List Value} {x : Nat} (he : ws[q0]? = some (a, .inr (6, fs))) (hl : 7 < fs.length) (hdg : decode cc pc = .ok (.putfield 19, 3)) (kk : ∀ (H1 : Heap) (locs1 : List Loc), va_P D vwCl (ws.set q0 (a, .inr (6, fs.set 7 (.ref x)))) H1 → va_D A (ws.set q0 (a, .inr (6, fs.set 7 (.ref x)))) → va_S A H0 H1 locs1 → W p l e R s m args below meth c H1 locs1 cells slots Q (F0 m (pc + 3) ls rest)) : W p l e R s m args below meth c H locs cells slots Q (F0 m pc ls (.ref x :: .ref a :: rest)) := va_putF (C := RX6) (T := TX6) (N := 18) (ty := (.array .int)) hx hb hg gn_X6 tyX6 tyX6_ok nmX6 hown hK hP hD hS q0 he rfl 7 (by decide) (hg _ wd_fl_X6_19) (fun _ h9 => h9) rfl hin rfl (by decide +kernel) rfl rfl hl hdg kk
theorem wd_fl_X6_22 : Cond.fieldLink RX6 22 "FormFindsModel" "motiveLength" "[I" ∈ GW := gw_at 573 (by decide +kernel) (by decide +kernel)
theorem gf_X6_22 (hx : p.tables.exec = Jvm.exec) (hb : c.code = cc) (hg : ∀ w ∈ GW, w.before args s = true) (hown : s.vm.findClass RX6 = some m.cls) (hK : va_K D vwCl tys s) (hP : va_P D vwCl ws H) (q0 : Nat) {fs : List Value} (he : ws[q0]? = some (a, .inr (6, fs))) {v : Value} (hv : fs[8]? = some v) (hdg : decode cc pc = .ok (.getfield 22, 3)) (kk : W p l e R s m args below meth c H locs cells slots Q (F0 m (pc + 3) ls (v :: rest))) : W p l e R s m args below meth c H locs cells slots Q (F0 m pc ls (.ref a :: rest)) := va_get (C := RX6) (T := TX6) (N := 18) hx hb hg gn_X6 hown hK hP q0 he rfl 8 (by decide) (hg _ wd_fl_X6_22) (fun _ h9 => h9) hv hdg kk
theorem pf_X6_22 (hx : p.tables.exec = Jvm.exec) (hb : c.code = cc) (hg : ∀ w ∈ GW, w.before args s = true) (hown : s.vm.findClass RX6 = some m.cls) (hin : meth.name = "<init>") (hK : va_K D vwCl tys s) (hP : va_P D vwCl ws H) (hD : va_D A ws) (hS : va_S A H0 H locs) (q0 : Nat) {fs : List Value} {x : Nat} (he : ws[q0]? = some (a, .inr (6, fs))) (hl : 8 < fs.length) (hdg : decode cc pc = .ok (.putfield 22, 3)) (kk : ∀ (H1 : Heap) (locs1 : List Loc), va_P D vwCl (ws.set q0 (a, .inr (6, fs.set 8 (.ref x)))) H1 → va_D A (ws.set q0 (a, .inr (6, fs.set 8 (.ref x)))) → va_S A H0 H1 locs1 → W p l e R s m args below meth c H1 locs1 cells slots Q (F0 m (pc + 3) ls rest)) : W p l e R s m args below meth c H locs cells slots Q (F0 m pc ls (.ref x :: .ref a :: rest)) := va_putF (C := RX6) (T := TX6) (N := 18) (ty := (.array .int)) hx hb hg gn_X6 tyX6 tyX6_ok nmX6 hown hK hP hD hS q0 he rfl 8 (by decide) (hg _ wd_fl_X6_22) (fun _ h9 => h9) rfl hin rfl (by decide +kernel) rfl rfl hl hdg kk
theorem wd_fl_X6_25 : Cond.fieldLink RX6 25 "FormFindsModel" "place" "[I" ∈ GW := gw_at 575 (by decide +kernel) (by decide +kernel)
theorem gf_X6_25 (hx : p.tables.exec = Jvm.exec) (hb : c.code = cc) (hg : ∀ w ∈ GW, w.before args s = true) (hown : s.vm.findClass RX6 = some m.cls) (hK : va_K D vwCl tys s) (hP : va_P D vwCl ws H) (q0 : Nat) {fs : List Value} (he : ws[q0]? = some (a, .inr (6, fs))) {v : Value} (hv : fs[10]? = some v) (hdg : decode cc pc = .ok (.getfield 25, 3)) (kk : W p l e R s m args below meth c H locs cells slots Q (F0 m (pc + 3) ls (v :: rest))) : W p l e R s m args below meth c H locs cells slots Q (F0 m pc ls (.ref a :: rest)) := va_get (C := RX6) (T := TX6) (N := 18) hx hb hg gn_X6 hown hK hP q0 he rfl 10 (by decide) (hg _ wd_fl_X6_25) (fun _ h9 => h9) hv hdg kk
theorem pf_X6_25 (hx : p.tables.exec = Jvm.exec) (hb : c.code = cc) (hg : ∀ w ∈ GW, w.before args s = true) (hown : s.vm.findClass RX6 = some m.cls) (hin : meth.name = "<init>") (hK : va_K D vwCl tys s) (hP : va_P D vwCl ws H) (hD : va_D A ws) (hS : va_S A H0 H locs) (q0 : Nat) {fs : List Value} {x : Nat} (he : ws[q0]? = some (a, .inr (6, fs))) (hl : 10 < fs.length) (hdg : decode cc pc = .ok (.putfield 25, 3)) (kk : ∀ (H1 : Heap) (locs1 : List Loc), va_P D vwCl (ws.set q0 (a, .inr (6, fs.set 10 (.ref x)))) H1 → va_D A (ws.set q0 (a, .inr (6, fs.set 10 (.ref x)))) → va_S A H0 H1 locs1 → W p l e R s m args below meth c H1 locs1 cells slots Q (F0 m (pc + 3) ls rest)) : W p l e R s m args below meth c H locs cells slots Q (F0 m pc ls (.ref x :: .ref a :: rest)) := va_putF (C := RX6) (T := TX6) (N := 18) (ty := (.array .int)) hx hb hg gn_X6 tyX6 tyX6_ok nmX6 hown hK hP hD hS q0 he rfl 10 (by decide) (hg _ wd_fl_X6_25) (fun _ h9 => h9) rfl hin rfl (by decide +kernel) rfl rfl hl hdg kk
theorem wd_fl_X6_28 : Cond.fieldLink RX6 28 "FormFindsModel" "begins" "[I" ∈ GW := gw_at 578 (by decide +kernel) (by decide +kernel)
theorem gf_X6_28 (hx : p.tables.exec = Jvm.exec) (hb : c.code = cc) (hg : ∀ w ∈ GW, w.before args s = true) (hown : s.vm.findClass RX6 = some m.cls) (hK : va_K D vwCl tys s) (hP : va_P D vwCl ws H) (q0 : Nat) {fs : List Value} (he : ws[q0]? = some (a, .inr (6, fs))) {v : Value} (hv : fs[13]? = some v) (hdg : decode cc pc = .ok (.getfield 28, 3)) (kk : W p l e R s m args below meth c H locs cells slots Q (F0 m (pc + 3) ls (v :: rest))) : W p l e R s m args below meth c H locs cells slots Q (F0 m pc ls (.ref a :: rest)) := va_get (C := RX6) (T := TX6) (N := 18) hx hb hg gn_X6 hown hK hP q0 he rfl 13 (by decide) (hg _ wd_fl_X6_28) (fun _ h9 => h9) hv hdg kk
theorem pf_X6_28 (hx : p.tables.exec = Jvm.exec) (hb : c.code = cc) (hg : ∀ w ∈ GW, w.before args s = true) (hown : s.vm.findClass RX6 = some m.cls) (hin : meth.name = "<init>") (hK : va_K D vwCl tys s) (hP : va_P D vwCl ws H) (hD : va_D A ws) (hS : va_S A H0 H locs) (q0 : Nat) {fs : List Value} {x : Nat} (he : ws[q0]? = some (a, .inr (6, fs))) (hl : 13 < fs.length) (hdg : decode cc pc = .ok (.putfield 28, 3)) (kk : ∀ (H1 : Heap) (locs1 : List Loc), va_P D vwCl (ws.set q0 (a, .inr (6, fs.set 13 (.ref x)))) H1 → va_D A (ws.set q0 (a, .inr (6, fs.set 13 (.ref x)))) → va_S A H0 H1 locs1 → W p l e R s m args below meth c H1 locs1 cells slots Q (F0 m (pc + 3) ls rest)) : W p l e R s m args below meth c H locs cells slots Q (F0 m pc ls (.ref x :: .ref a :: rest)) := va_putF (C := RX6) (T := TX6) (N := 18) (ty := (.array .int)) hx hb hg gn_X6 tyX6 tyX6_ok nmX6 hown hK hP hD hS q0 he rfl 13 (by decide) (hg _ wd_fl_X6_28) (fun _ h9 => h9) rfl hin rfl (by decide +kernel) rfl rfl hl hdg kk
theorem wd_fl_X6_31 : Cond.fieldLink RX6 31 "FormFindsModel" "lookPitch" "[I" ∈ GW := gw_at 579 (by decide +kernel) (by decide +kernel)
theorem gf_X6_31 (hx : p.tables.exec = Jvm.exec) (hb : c.code = cc) (hg : ∀ w ∈ GW, w.before args s = true) (hown : s.vm.findClass RX6 = some m.cls) (hK : va_K D vwCl tys s) (hP : va_P D vwCl ws H) (q0 : Nat) {fs : List Value} (he : ws[q0]? = some (a, .inr (6, fs))) {v : Value} (hv : fs[14]? = some v) (hdg : decode cc pc = .ok (.getfield 31, 3)) (kk : W p l e R s m args below meth c H locs cells slots Q (F0 m (pc + 3) ls (v :: rest))) : W p l e R s m args below meth c H locs cells slots Q (F0 m pc ls (.ref a :: rest)) := va_get (C := RX6) (T := TX6) (N := 18) hx hb hg gn_X6 hown hK hP q0 he rfl 14 (by decide) (hg _ wd_fl_X6_31) (fun _ h9 => h9) hv hdg kk
theorem pf_X6_31 (hx : p.tables.exec = Jvm.exec) (hb : c.code = cc) (hg : ∀ w ∈ GW, w.before args s = true) (hown : s.vm.findClass RX6 = some m.cls) (hin : meth.name = "<init>") (hK : va_K D vwCl tys s) (hP : va_P D vwCl ws H) (hD : va_D A ws) (hS : va_S A H0 H locs) (q0 : Nat) {fs : List Value} {x : Nat} (he : ws[q0]? = some (a, .inr (6, fs))) (hl : 14 < fs.length) (hdg : decode cc pc = .ok (.putfield 31, 3)) (kk : ∀ (H1 : Heap) (locs1 : List Loc), va_P D vwCl (ws.set q0 (a, .inr (6, fs.set 14 (.ref x)))) H1 → va_D A (ws.set q0 (a, .inr (6, fs.set 14 (.ref x)))) → va_S A H0 H1 locs1 → W p l e R s m args below meth c H1 locs1 cells slots Q (F0 m (pc + 3) ls rest)) : W p l e R s m args below meth c H locs cells slots Q (F0 m pc ls (.ref x :: .ref a :: rest)) := va_putF (C := RX6) (T := TX6) (N := 18) (ty := (.array .int)) hx hb hg gn_X6 tyX6 tyX6_ok nmX6 hown hK hP hD hS q0 he rfl 14 (by decide) (hg _ wd_fl_X6_31) (fun _ h9 => h9) rfl hin rfl (by decide +kernel) rfl rfl hl hdg kk
theorem wd_fl_X6_34 : Cond.fieldLink RX6 34 "FormFindsModel" "least" "[I" ∈ GW := gw_at 580 (by decide +kernel) (by decide +kernel)
theorem gf_X6_34 (hx : p.tables.exec = Jvm.exec) (hb : c.code = cc) (hg : ∀ w ∈ GW, w.before args s = true) (hown : s.vm.findClass RX6 = some m.cls) (hK : va_K D vwCl tys s) (hP : va_P D vwCl ws H) (q0 : Nat) {fs : List Value} (he : ws[q0]? = some (a, .inr (6, fs))) {v : Value} (hv : fs[15]? = some v) (hdg : decode cc pc = .ok (.getfield 34, 3)) (kk : W p l e R s m args below meth c H locs cells slots Q (F0 m (pc + 3) ls (v :: rest))) : W p l e R s m args below meth c H locs cells slots Q (F0 m pc ls (.ref a :: rest)) := va_get (C := RX6) (T := TX6) (N := 18) hx hb hg gn_X6 hown hK hP q0 he rfl 15 (by decide) (hg _ wd_fl_X6_34) (fun _ h9 => h9) hv hdg kk
theorem pf_X6_34 (hx : p.tables.exec = Jvm.exec) (hb : c.code = cc) (hg : ∀ w ∈ GW, w.before args s = true) (hown : s.vm.findClass RX6 = some m.cls) (hin : meth.name = "<init>") (hK : va_K D vwCl tys s) (hP : va_P D vwCl ws H) (hD : va_D A ws) (hS : va_S A H0 H locs) (q0 : Nat) {fs : List Value} {x : Nat} (he : ws[q0]? = some (a, .inr (6, fs))) (hl : 15 < fs.length) (hdg : decode cc pc = .ok (.putfield 34, 3)) (kk : ∀ (H1 : Heap) (locs1 : List Loc), va_P D vwCl (ws.set q0 (a, .inr (6, fs.set 15 (.ref x)))) H1 → va_D A (ws.set q0 (a, .inr (6, fs.set 15 (.ref x)))) → va_S A H0 H1 locs1 → W p l e R s m args below meth c H1 locs1 cells slots Q (F0 m (pc + 3) ls rest)) : W p l e R s m args below meth c H locs cells slots Q (F0 m pc ls (.ref x :: .ref a :: rest)) := va_putF (C := RX6) (T := TX6) (N := 18) (ty := (.array .int)) hx hb hg gn_X6 tyX6 tyX6_ok nmX6 hown hK hP hD hS q0 he rfl 15 (by decide) (hg _ wd_fl_X6_34) (fun _ h9 => h9) rfl hin rfl (by decide +kernel) rfl rfl hl hdg kk
theorem wd_fl_X6_37 : Cond.fieldLink RX6 37 "FormFindsModel" "fewest" "[I" ∈ GW := gw_at 581 (by decide +kernel) (by decide +kernel)
theorem gf_X6_37 (hx : p.tables.exec = Jvm.exec) (hb : c.code = cc) (hg : ∀ w ∈ GW, w.before args s = true) (hown : s.vm.findClass RX6 = some m.cls) (hK : va_K D vwCl tys s) (hP : va_P D vwCl ws H) (q0 : Nat) {fs : List Value} (he : ws[q0]? = some (a, .inr (6, fs))) {v : Value} (hv : fs[16]? = some v) (hdg : decode cc pc = .ok (.getfield 37, 3)) (kk : W p l e R s m args below meth c H locs cells slots Q (F0 m (pc + 3) ls (v :: rest))) : W p l e R s m args below meth c H locs cells slots Q (F0 m pc ls (.ref a :: rest)) := va_get (C := RX6) (T := TX6) (N := 18) hx hb hg gn_X6 hown hK hP q0 he rfl 16 (by decide) (hg _ wd_fl_X6_37) (fun _ h9 => h9) hv hdg kk
theorem pf_X6_37 (hx : p.tables.exec = Jvm.exec) (hb : c.code = cc) (hg : ∀ w ∈ GW, w.before args s = true) (hown : s.vm.findClass RX6 = some m.cls) (hin : meth.name = "<init>") (hK : va_K D vwCl tys s) (hP : va_P D vwCl ws H) (hD : va_D A ws) (hS : va_S A H0 H locs) (q0 : Nat) {fs : List Value} {x : Nat} (he : ws[q0]? = some (a, .inr (6, fs))) (hl : 16 < fs.length) (hdg : decode cc pc = .ok (.putfield 37, 3)) (kk : ∀ (H1 : Heap) (locs1 : List Loc), va_P D vwCl (ws.set q0 (a, .inr (6, fs.set 16 (.ref x)))) H1 → va_D A (ws.set q0 (a, .inr (6, fs.set 16 (.ref x)))) → va_S A H0 H1 locs1 → W p l e R s m args below meth c H1 locs1 cells slots Q (F0 m (pc + 3) ls rest)) : W p l e R s m args below meth c H locs cells slots Q (F0 m pc ls (.ref x :: .ref a :: rest)) := va_putF (C := RX6) (T := TX6) (N := 18) (ty := (.array .int)) hx hb hg gn_X6 tyX6 tyX6_ok nmX6 hown hK hP hD hS q0 he rfl 16 (by decide) (hg _ wd_fl_X6_37) (fun _ h9 => h9) rfl hin rfl (by decide +kernel) rfl rfl hl hdg kk
theorem wd_fl_X6_40 : Cond.fieldLink RX6 40 "FormFindsModel" "nextOne" "[I" ∈ GW := gw_at 582 (by decide +kernel) (by decide +kernel)
theorem gf_X6_40 (hx : p.tables.exec = Jvm.exec) (hb : c.code = cc) (hg : ∀ w ∈ GW, w.before args s = true) (hown : s.vm.findClass RX6 = some m.cls) (hK : va_K D vwCl tys s) (hP : va_P D vwCl ws H) (q0 : Nat) {fs : List Value} (he : ws[q0]? = some (a, .inr (6, fs))) {v : Value} (hv : fs[17]? = some v) (hdg : decode cc pc = .ok (.getfield 40, 3)) (kk : W p l e R s m args below meth c H locs cells slots Q (F0 m (pc + 3) ls (v :: rest))) : W p l e R s m args below meth c H locs cells slots Q (F0 m pc ls (.ref a :: rest)) := va_get (C := RX6) (T := TX6) (N := 18) hx hb hg gn_X6 hown hK hP q0 he rfl 17 (by decide) (hg _ wd_fl_X6_40) (fun _ h9 => h9) hv hdg kk
theorem pf_X6_40 (hx : p.tables.exec = Jvm.exec) (hb : c.code = cc) (hg : ∀ w ∈ GW, w.before args s = true) (hown : s.vm.findClass RX6 = some m.cls) (hin : meth.name = "<init>") (hK : va_K D vwCl tys s) (hP : va_P D vwCl ws H) (hD : va_D A ws) (hS : va_S A H0 H locs) (q0 : Nat) {fs : List Value} {x : Nat} (he : ws[q0]? = some (a, .inr (6, fs))) (hl : 17 < fs.length) (hdg : decode cc pc = .ok (.putfield 40, 3)) (kk : ∀ (H1 : Heap) (locs1 : List Loc), va_P D vwCl (ws.set q0 (a, .inr (6, fs.set 17 (.ref x)))) H1 → va_D A (ws.set q0 (a, .inr (6, fs.set 17 (.ref x)))) → va_S A H0 H1 locs1 → W p l e R s m args below meth c H1 locs1 cells slots Q (F0 m (pc + 3) ls rest)) : W p l e R s m args below meth c H locs cells slots Q (F0 m pc ls (.ref x :: .ref a :: rest)) := va_putF (C := RX6) (T := TX6) (N := 18) (ty := (.array .int)) hx hb hg gn_X6 tyX6 tyX6_ok nmX6 hown hK hP hD hS q0 he rfl 17 (by decide) (hg _ wd_fl_X6_40) (fun _ h9 => h9) rfl hin rfl (by decide +kernel) rfl rfl hl hdg kk
theorem wd_fl_X6_46 : Cond.fieldLink RX6 46 "FormFindsModel" "thrown" "I" ∈ GW := gw_at 565 (by decide +kernel) (by decide +kernel)
theorem gf_X6_46 (hx : p.tables.exec = Jvm.exec) (hb : c.code = cc) (hg : ∀ w ∈ GW, w.before args s = true) (hown : s.vm.findClass RX6 = some m.cls) (hK : va_K D vwCl tys s) (hP : va_P D vwCl ws H) (q0 : Nat) {fs : List Value} (he : ws[q0]? = some (a, .inr (6, fs))) {v : Value} (hv : fs[0]? = some v) (hdg : decode cc pc = .ok (.getfield 46, 3)) (kk : W p l e R s m args below meth c H locs cells slots Q (F0 m (pc + 3) ls (v :: rest))) : W p l e R s m args below meth c H locs cells slots Q (F0 m pc ls (.ref a :: rest)) := va_get (C := RX6) (T := TX6) (N := 18) hx hb hg gn_X6 hown hK hP q0 he rfl 0 (by decide) (hg _ wd_fl_X6_46) (fun _ h9 => h9) hv hdg kk
theorem pf_X6_46 (hx : p.tables.exec = Jvm.exec) (hb : c.code = cc) (hg : ∀ w ∈ GW, w.before args s = true) (hown : s.vm.findClass RX6 = some m.cls) (hK : va_K D vwCl tys s) (hP : va_P D vwCl ws H) (hD : va_D A ws) (hS : va_S A H0 H locs) (q0 : Nat) {fs : List Value} {x : Int32} (he : ws[q0]? = some (a, .inr (6, fs))) (hl : 0 < fs.length) (hdg : decode cc pc = .ok (.putfield 46, 3)) (kk : ∀ (H1 : Heap) (locs1 : List Loc), va_P D vwCl (ws.set q0 (a, .inr (6, fs.set 0 (.int x)))) H1 → va_D A (ws.set q0 (a, .inr (6, fs.set 0 (.int x)))) → va_S A H0 H1 locs1 → W p l e R s m args below meth c H1 locs1 cells slots Q (F0 m (pc + 3) ls rest)) : W p l e R s m args below meth c H locs cells slots Q (F0 m pc ls (.int x :: .ref a :: rest)) := va_put (C := RX6) (T := TX6) (N := 18) (ty := .int) hx hb hg gn_X6 tyX6 tyX6_ok nmX6 hown hK hP hD hS q0 he rfl 0 (by decide) (hg _ wd_fl_X6_46) (fun _ h9 => h9) rfl (by decide +kernel) rfl rfl hl hdg kk
theorem wd_fl_X6_50 : Cond.fieldLink RX6 50 "FormFindsModel" "notes" "I" ∈ GW := gw_at 566 (by decide +kernel) (by decide +kernel)
theorem gf_X6_50 (hx : p.tables.exec = Jvm.exec) (hb : c.code = cc) (hg : ∀ w ∈ GW, w.before args s = true) (hown : s.vm.findClass RX6 = some m.cls) (hK : va_K D vwCl tys s) (hP : va_P D vwCl ws H) (q0 : Nat) {fs : List Value} (he : ws[q0]? = some (a, .inr (6, fs))) {v : Value} (hv : fs[1]? = some v) (hdg : decode cc pc = .ok (.getfield 50, 3)) (kk : W p l e R s m args below meth c H locs cells slots Q (F0 m (pc + 3) ls (v :: rest))) : W p l e R s m args below meth c H locs cells slots Q (F0 m pc ls (.ref a :: rest)) := va_get (C := RX6) (T := TX6) (N := 18) hx hb hg gn_X6 hown hK hP q0 he rfl 1 (by decide) (hg _ wd_fl_X6_50) (fun _ h9 => h9) hv hdg kk
theorem pf_X6_50 (hx : p.tables.exec = Jvm.exec) (hb : c.code = cc) (hg : ∀ w ∈ GW, w.before args s = true) (hown : s.vm.findClass RX6 = some m.cls) (hK : va_K D vwCl tys s) (hP : va_P D vwCl ws H) (hD : va_D A ws) (hS : va_S A H0 H locs) (q0 : Nat) {fs : List Value} {x : Int32} (he : ws[q0]? = some (a, .inr (6, fs))) (hl : 1 < fs.length) (hdg : decode cc pc = .ok (.putfield 50, 3)) (kk : ∀ (H1 : Heap) (locs1 : List Loc), va_P D vwCl (ws.set q0 (a, .inr (6, fs.set 1 (.int x)))) H1 → va_D A (ws.set q0 (a, .inr (6, fs.set 1 (.int x)))) → va_S A H0 H1 locs1 → W p l e R s m args below meth c H1 locs1 cells slots Q (F0 m (pc + 3) ls rest)) : W p l e R s m args below meth c H locs cells slots Q (F0 m pc ls (.int x :: .ref a :: rest)) := va_put (C := RX6) (T := TX6) (N := 18) (ty := .int) hx hb hg gn_X6 tyX6 tyX6_ok nmX6 hown hK hP hD hS q0 he rfl 1 (by decide) (hg _ wd_fl_X6_50) (fun _ h9 => h9) rfl (by decide +kernel) rfl rfl hl hdg kk
theorem wd_fl_X6_53 : Cond.fieldLink RX6 53 "FormFindsModel" "repeats" "I" ∈ GW := gw_at 569 (by decide +kernel) (by decide +kernel)
theorem gf_X6_53 (hx : p.tables.exec = Jvm.exec) (hb : c.code = cc) (hg : ∀ w ∈ GW, w.before args s = true) (hown : s.vm.findClass RX6 = some m.cls) (hK : va_K D vwCl tys s) (hP : va_P D vwCl ws H) (q0 : Nat) {fs : List Value} (he : ws[q0]? = some (a, .inr (6, fs))) {v : Value} (hv : fs[4]? = some v) (hdg : decode cc pc = .ok (.getfield 53, 3)) (kk : W p l e R s m args below meth c H locs cells slots Q (F0 m (pc + 3) ls (v :: rest))) : W p l e R s m args below meth c H locs cells slots Q (F0 m pc ls (.ref a :: rest)) := va_get (C := RX6) (T := TX6) (N := 18) hx hb hg gn_X6 hown hK hP q0 he rfl 4 (by decide) (hg _ wd_fl_X6_53) (fun _ h9 => h9) hv hdg kk
theorem pf_X6_53 (hx : p.tables.exec = Jvm.exec) (hb : c.code = cc) (hg : ∀ w ∈ GW, w.before args s = true) (hown : s.vm.findClass RX6 = some m.cls) (hK : va_K D vwCl tys s) (hP : va_P D vwCl ws H) (hD : va_D A ws) (hS : va_S A H0 H locs) (q0 : Nat) {fs : List Value} {x : Int32} (he : ws[q0]? = some (a, .inr (6, fs))) (hl : 4 < fs.length) (hdg : decode cc pc = .ok (.putfield 53, 3)) (kk : ∀ (H1 : Heap) (locs1 : List Loc), va_P D vwCl (ws.set q0 (a, .inr (6, fs.set 4 (.int x)))) H1 → va_D A (ws.set q0 (a, .inr (6, fs.set 4 (.int x)))) → va_S A H0 H1 locs1 → W p l e R s m args below meth c H1 locs1 cells slots Q (F0 m (pc + 3) ls rest)) : W p l e R s m args below meth c H locs cells slots Q (F0 m pc ls (.int x :: .ref a :: rest)) := va_put (C := RX6) (T := TX6) (N := 18) (ty := .int) hx hb hg gn_X6 tyX6 tyX6_ok nmX6 hown hK hP hD hS q0 he rfl 4 (by decide) (hg _ wd_fl_X6_53) (fun _ h9 => h9) rfl (by decide +kernel) rfl rfl hl hdg kk
theorem wd_fl_X6_56 : Cond.fieldLink RX6 56 "FormFindsModel" "motive" "I" ∈ GW := gw_at 571 (by decide +kernel) (by decide +kernel)
theorem gf_X6_56 (hx : p.tables.exec = Jvm.exec) (hb : c.code = cc) (hg : ∀ w ∈ GW, w.before args s = true) (hown : s.vm.findClass RX6 = some m.cls) (hK : va_K D vwCl tys s) (hP : va_P D vwCl ws H) (q0 : Nat) {fs : List Value} (he : ws[q0]? = some (a, .inr (6, fs))) {v : Value} (hv : fs[6]? = some v) (hdg : decode cc pc = .ok (.getfield 56, 3)) (kk : W p l e R s m args below meth c H locs cells slots Q (F0 m (pc + 3) ls (v :: rest))) : W p l e R s m args below meth c H locs cells slots Q (F0 m pc ls (.ref a :: rest)) := va_get (C := RX6) (T := TX6) (N := 18) hx hb hg gn_X6 hown hK hP q0 he rfl 6 (by decide) (hg _ wd_fl_X6_56) (fun _ h9 => h9) hv hdg kk
theorem pf_X6_56 (hx : p.tables.exec = Jvm.exec) (hb : c.code = cc) (hg : ∀ w ∈ GW, w.before args s = true) (hown : s.vm.findClass RX6 = some m.cls) (hK : va_K D vwCl tys s) (hP : va_P D vwCl ws H) (hD : va_D A ws) (hS : va_S A H0 H locs) (q0 : Nat) {fs : List Value} {x : Int32} (he : ws[q0]? = some (a, .inr (6, fs))) (hl : 6 < fs.length) (hdg : decode cc pc = .ok (.putfield 56, 3)) (kk : ∀ (H1 : Heap) (locs1 : List Loc), va_P D vwCl (ws.set q0 (a, .inr (6, fs.set 6 (.int x)))) H1 → va_D A (ws.set q0 (a, .inr (6, fs.set 6 (.int x)))) → va_S A H0 H1 locs1 → W p l e R s m args below meth c H1 locs1 cells slots Q (F0 m (pc + 3) ls rest)) : W p l e R s m args below meth c H locs cells slots Q (F0 m pc ls (.int x :: .ref a :: rest)) := va_put (C := RX6) (T := TX6) (N := 18) (ty := .int) hx hb hg gn_X6 tyX6 tyX6_ok nmX6 hown hK hP hD hS q0 he rfl 6 (by decide) (hg _ wd_fl_X6_56) (fun _ h9 => h9) rfl (by decide +kernel) rfl rfl hl hdg kk
theorem wd_fl_X6_59 : Cond.fieldLink RX6 59 "FormFindsModel" "places" "I" ∈ GW := gw_at 574 (by decide +kernel) (by decide +kernel)
theorem gf_X6_59 (hx : p.tables.exec = Jvm.exec) (hb : c.code = cc) (hg : ∀ w ∈ GW, w.before args s = true) (hown : s.vm.findClass RX6 = some m.cls) (hK : va_K D vwCl tys s) (hP : va_P D vwCl ws H) (q0 : Nat) {fs : List Value} (he : ws[q0]? = some (a, .inr (6, fs))) {v : Value} (hv : fs[9]? = some v) (hdg : decode cc pc = .ok (.getfield 59, 3)) (kk : W p l e R s m args below meth c H locs cells slots Q (F0 m (pc + 3) ls (v :: rest))) : W p l e R s m args below meth c H locs cells slots Q (F0 m pc ls (.ref a :: rest)) := va_get (C := RX6) (T := TX6) (N := 18) hx hb hg gn_X6 hown hK hP q0 he rfl 9 (by decide) (hg _ wd_fl_X6_59) (fun _ h9 => h9) hv hdg kk
theorem pf_X6_59 (hx : p.tables.exec = Jvm.exec) (hb : c.code = cc) (hg : ∀ w ∈ GW, w.before args s = true) (hown : s.vm.findClass RX6 = some m.cls) (hK : va_K D vwCl tys s) (hP : va_P D vwCl ws H) (hD : va_D A ws) (hS : va_S A H0 H locs) (q0 : Nat) {fs : List Value} {x : Int32} (he : ws[q0]? = some (a, .inr (6, fs))) (hl : 9 < fs.length) (hdg : decode cc pc = .ok (.putfield 59, 3)) (kk : ∀ (H1 : Heap) (locs1 : List Loc), va_P D vwCl (ws.set q0 (a, .inr (6, fs.set 9 (.int x)))) H1 → va_D A (ws.set q0 (a, .inr (6, fs.set 9 (.int x)))) → va_S A H0 H1 locs1 → W p l e R s m args below meth c H1 locs1 cells slots Q (F0 m (pc + 3) ls rest)) : W p l e R s m args below meth c H locs cells slots Q (F0 m pc ls (.int x :: .ref a :: rest)) := va_put (C := RX6) (T := TX6) (N := 18) (ty := .int) hx hb hg gn_X6 tyX6 tyX6_ok nmX6 hown hK hP hD hS q0 he rfl 9 (by decide) (hg _ wd_fl_X6_59) (fun _ h9 => h9) rfl (by decide +kernel) rfl rfl hl hdg kk
theorem wd_fl_X6_62 : Cond.fieldLink RX6 62 "FormFindsModel" "sections" "I" ∈ GW := gw_at 576 (by decide +kernel) (by decide +kernel)
theorem gf_X6_62 (hx : p.tables.exec = Jvm.exec) (hb : c.code = cc) (hg : ∀ w ∈ GW, w.before args s = true) (hown : s.vm.findClass RX6 = some m.cls) (hK : va_K D vwCl tys s) (hP : va_P D vwCl ws H) (q0 : Nat) {fs : List Value} (he : ws[q0]? = some (a, .inr (6, fs))) {v : Value} (hv : fs[11]? = some v) (hdg : decode cc pc = .ok (.getfield 62, 3)) (kk : W p l e R s m args below meth c H locs cells slots Q (F0 m (pc + 3) ls (v :: rest))) : W p l e R s m args below meth c H locs cells slots Q (F0 m pc ls (.ref a :: rest)) := va_get (C := RX6) (T := TX6) (N := 18) hx hb hg gn_X6 hown hK hP q0 he rfl 11 (by decide) (hg _ wd_fl_X6_62) (fun _ h9 => h9) hv hdg kk
theorem pf_X6_62 (hx : p.tables.exec = Jvm.exec) (hb : c.code = cc) (hg : ∀ w ∈ GW, w.before args s = true) (hown : s.vm.findClass RX6 = some m.cls) (hK : va_K D vwCl tys s) (hP : va_P D vwCl ws H) (hD : va_D A ws) (hS : va_S A H0 H locs) (q0 : Nat) {fs : List Value} {x : Int32} (he : ws[q0]? = some (a, .inr (6, fs))) (hl : 11 < fs.length) (hdg : decode cc pc = .ok (.putfield 62, 3)) (kk : ∀ (H1 : Heap) (locs1 : List Loc), va_P D vwCl (ws.set q0 (a, .inr (6, fs.set 11 (.int x)))) H1 → va_D A (ws.set q0 (a, .inr (6, fs.set 11 (.int x)))) → va_S A H0 H1 locs1 → W p l e R s m args below meth c H1 locs1 cells slots Q (F0 m (pc + 3) ls rest)) : W p l e R s m args below meth c H locs cells slots Q (F0 m pc ls (.int x :: .ref a :: rest)) := va_put (C := RX6) (T := TX6) (N := 18) (ty := .int) hx hb hg gn_X6 tyX6 tyX6_ok nmX6 hown hK hP hD hS q0 he rfl 11 (by decide) (hg _ wd_fl_X6_62) (fun _ h9 => h9) rfl (by decide +kernel) rfl rfl hl hdg kk
theorem wd_fl_X6_65 : Cond.fieldLink RX6 65 "FormFindsModel" "cost" "I" ∈ GW := gw_at 577 (by decide +kernel) (by decide +kernel)
theorem gf_X6_65 (hx : p.tables.exec = Jvm.exec) (hb : c.code = cc) (hg : ∀ w ∈ GW, w.before args s = true) (hown : s.vm.findClass RX6 = some m.cls) (hK : va_K D vwCl tys s) (hP : va_P D vwCl ws H) (q0 : Nat) {fs : List Value} (he : ws[q0]? = some (a, .inr (6, fs))) {v : Value} (hv : fs[12]? = some v) (hdg : decode cc pc = .ok (.getfield 65, 3)) (kk : W p l e R s m args below meth c H locs cells slots Q (F0 m (pc + 3) ls (v :: rest))) : W p l e R s m args below meth c H locs cells slots Q (F0 m pc ls (.ref a :: rest)) := va_get (C := RX6) (T := TX6) (N := 18) hx hb hg gn_X6 hown hK hP q0 he rfl 12 (by decide) (hg _ wd_fl_X6_65) (fun _ h9 => h9) hv hdg kk
theorem pf_X6_65 (hx : p.tables.exec = Jvm.exec) (hb : c.code = cc) (hg : ∀ w ∈ GW, w.before args s = true) (hown : s.vm.findClass RX6 = some m.cls) (hK : va_K D vwCl tys s) (hP : va_P D vwCl ws H) (hD : va_D A ws) (hS : va_S A H0 H locs) (q0 : Nat) {fs : List Value} {x : Int32} (he : ws[q0]? = some (a, .inr (6, fs))) (hl : 12 < fs.length) (hdg : decode cc pc = .ok (.putfield 65, 3)) (kk : ∀ (H1 : Heap) (locs1 : List Loc), va_P D vwCl (ws.set q0 (a, .inr (6, fs.set 12 (.int x)))) H1 → va_D A (ws.set q0 (a, .inr (6, fs.set 12 (.int x)))) → va_S A H0 H1 locs1 → W p l e R s m args below meth c H1 locs1 cells slots Q (F0 m (pc + 3) ls rest)) : W p l e R s m args below meth c H locs cells slots Q (F0 m pc ls (.int x :: .ref a :: rest)) := va_put (C := RX6) (T := TX6) (N := 18) (ty := .int) hx hb hg gn_X6 tyX6 tyX6_ok nmX6 hown hK hP hD hS q0 he rfl 12 (by decide) (hg _ wd_fl_X6_65) (fun _ h9 => h9) rfl (by decide +kernel) rfl rfl hl hdg kk
end FLD
theorem wd_cl_X6_68 : Cond.constantLong RX6 68 127 ∈ GW := gw_at 632 (by decide +kernel) (by decide +kernel)
theorem wd_cl_X6_74 : Cond.constantLong RX6 74 999 ∈ GW := gw_at 636 (by decide +kernel) (by decide +kernel)
theorem wd_cl_X6_80 : Cond.constantLong RX6 80 4 ∈ GW := gw_at 652 (by decide +kernel) (by decide +kernel)
theorem wd_cl_X6_94 : Cond.constantLong RX6 94 60 ∈ GW := gw_at 669 (by decide +kernel) (by decide +kernel)
theorem wd_cl_X6_100 : Cond.constantLong RX6 100 2 ∈ GW := gw_at 678 (by decide +kernel) (by decide +kernel)
theorem wd_cl_X6_102 : Cond.constantLong RX6 102 12 ∈ GW := gw_at 695 (by decide +kernel) (by decide +kernel)
theorem wd_cl_X6_107 : Cond.constantLong RX6 107 3 ∈ GW := gw_at 700 (by decide +kernel) (by decide +kernel)
theorem wd_cl_X6_112 : Cond.constantLong RX6 112 9 ∈ GW := gw_at 713 (by decide +kernel) (by decide +kernel)
theorem wd_cl_X6_117 : Cond.constantLong RX6 117 11 ∈ GW := gw_at 722 (by decide +kernel) (by decide +kernel)
theorem wd_cl_X6_122 : Cond.constantLong RX6 122 1000 ∈ GW := gw_at 739 (by decide +kernel) (by decide +kernel)
theorem wd_cl_X6_124 : Cond.constantLong RX6 124 100 ∈ GW := gw_at 740 (by decide +kernel) (by decide +kernel)
theorem wd_ck_L_8 : Cond.classLink RL 8 "FormFinds" ∈ GW := gw_at 41 (by decide +kernel) (by decide +kernel)
theorem wd_ck_X5_7 : Cond.classLink RX5 7 "FormFinds$NoteRow" ∈ GW := gw_at 49 (by decide +kernel) (by decide +kernel)
theorem wd_ck_X5_22 : Cond.classLink RX5 22 "FormFinds$ItemRow" ∈ GW := gw_at 74 (by decide +kernel) (by decide +kernel)
theorem wd_ck_X5_29 : Cond.classLink RX5 29 "FormFinds$RepeatList" ∈ GW := gw_at 88 (by decide +kernel) (by decide +kernel)
theorem wd_ck_X5_36 : Cond.classLink RX5 36 "FormFinds$PlaceList" ∈ GW := gw_at 105 (by decide +kernel) (by decide +kernel)
theorem wd_ck_X5_43 : Cond.classLink RX5 43 "FormFinds$Parting" ∈ GW := gw_at 120 (by decide +kernel) (by decide +kernel)
theorem wd_ck_L_13 : Cond.classLink RL 13 "java/lang/IllegalArgumentException" ∈ GW := gw_at 177 (by decide +kernel) (by decide +kernel)
theorem wd_ck_L_15 : Cond.classLink RL 15 "java/lang/IllegalStateException" ∈ GW := gw_at 178 (by decide +kernel) (by decide +kernel)
theorem wd_ck_X5_64 : Cond.classLink RX5 64 "java/lang/IllegalArgumentException" ∈ GW := gw_at 186 (by decide +kernel) (by decide +kernel)
theorem wd_ck_X5_71 : Cond.classLink RX5 71 "java/lang/IllegalStateException" ∈ GW := gw_at 254 (by decide +kernel) (by decide +kernel)
theorem wd_ck_L_43 : Cond.classLink RL 43 "java/lang/ArithmeticException" ∈ GW := gw_at 398 (by decide +kernel) (by decide +kernel)
theorem wd_ck_X5_126 : Cond.classLink RX5 126 "java/lang/ArithmeticException" ∈ GW := gw_at 404 (by decide +kernel) (by decide +kernel)
theorem wd_ck_L_74 : Cond.classLink RL 74 "FormFindsModel" ∈ GW := gw_at 555 (by decide +kernel) (by decide +kernel)
theorem wd_co_X5_init : Cond.code yX5_init cX5_init 1 none ∈ GW := gw_at 45 (by decide +kernel) (by decide +kernel)
theorem wd_co_X1_init : Cond.code yX1_init cX1_init 1 none ∈ GW := gw_at 53 (by decide +kernel) (by decide +kernel)
theorem wd_co_X0_init : Cond.code yX0_init cX0_init 1 none ∈ GW := gw_at 78 (by decide +kernel) (by decide +kernel)
theorem wd_co_X4_init : Cond.code yX4_init cX4_init 1 none ∈ GW := gw_at 92 (by decide +kernel) (by decide +kernel)
theorem wd_co_X3_init : Cond.code yX3_init cX3_init 1 none ∈ GW := gw_at 109 (by decide +kernel) (by decide +kernel)
theorem wd_co_X2_init : Cond.code yX2_init cX2_init 1 none ∈ GW := gw_at 124 (by decide +kernel) (by decide +kernel)
theorem wd_co_X5_clear : Cond.code yX5_clear cX5_clear 2 (some .int) ∈ GW := gw_at 173 (by decide +kernel) (by decide +kernel)
theorem wd_co_X5_note : Cond.code yX5_note cX5_note 3 (some .int) ∈ GW := gw_at 182 (by decide +kernel) (by decide +kernel)
theorem wd_co_X5_isWithin : Cond.code yX5_isWithin cX5_isWithin 3 (some .boolean) ∈ GW := gw_at 185 (by decide +kernel) (by decide +kernel)
theorem wd_co_X1_append : Cond.code yX1_append cX1_append 3 none ∈ GW := gw_at 273 (by decide +kernel) (by decide +kernel)
theorem wd_co_X5_drop : Cond.code yX5_drop cX5_drop 2 (some .int) ∈ GW := gw_at 280 (by decide +kernel) (by decide +kernel)
theorem wd_co_X5_items : Cond.code yX5_items cX5_items 2 (some .int) ∈ GW := gw_at 288 (by decide +kernel) (by decide +kernel)
theorem wd_co_X5_isView : Cond.code yX5_isView cX5_isView 1 (some .boolean) ∈ GW := gw_at 291 (by decide +kernel) (by decide +kernel)
theorem wd_co_X0_countIn : Cond.code yX0_countIn cX0_countIn 3 (some .int) ∈ GW := gw_at 295 (by decide +kernel) (by decide +kernel)
theorem wd_co_X5_item : Cond.code yX5_item cX5_item 3 (some .int) ∈ GW := gw_at 302 (by decide +kernel) (by decide +kernel)
theorem wd_co_X0_valueIn : Cond.code yX0_valueIn cX0_valueIn 3 (some .int) ∈ GW := gw_at 306 (by decide +kernel) (by decide +kernel)
theorem wd_co_X1_stepTo : Cond.code yX1_stepTo cX1_stepTo 2 (some .int) ∈ GW := gw_at 310 (by decide +kernel) (by decide +kernel)
theorem wd_co_J6_signum_0f7a4 : Cond.code yJ6_signum_0f7a4 cJ6_signum_0f7a4 1 (some .int) ∈ GW := gw_at 313 (by decide +kernel) (by decide +kernel)
theorem wd_co_X5_repeats : Cond.code yX5_repeats cX5_repeats 3 (some .int) ∈ GW := gw_at 320 (by decide +kernel) (by decide +kernel)
theorem wd_co_X0_read : Cond.code yX0_read cX0_read 4 none ∈ GW := gw_at 325 (by decide +kernel) (by decide +kernel)
theorem wd_co_X4_gather : Cond.code yX4_gather cX4_gather 3 none ∈ GW := gw_at 331 (by decide +kernel) (by decide +kernel)
theorem wd_co_X4_countByLength : Cond.code yX4_countByLength cX4_countByLength 6 none ∈ GW := gw_at 335 (by decide +kernel) (by decide +kernel)
theorem wd_co_X0_repeatLength : Cond.code yX0_repeatLength cX0_repeatLength 4 (some .int) ∈ GW := gw_at 339 (by decide +kernel) (by decide +kernel)
theorem wd_co_X0_sameRun : Cond.code yX0_sameRun cX0_sameRun 4 (some .int) ∈ GW := gw_at 343 (by decide +kernel) (by decide +kernel)
theorem wd_co_X4_giveSlotsLongestFirst : Cond.code yX4_giveSlotsLongestFirst cX4_giveSlotsLongestFirst 3 none ∈ GW := gw_at 347 (by decide +kernel) (by decide +kernel)
theorem wd_co_X4_putInSlots : Cond.code yX4_putInSlots cX4_putInSlots 6 none ∈ GW := gw_at 351 (by decide +kernel) (by decide +kernel)
theorem wd_co_X4_put : Cond.code yX4_put cX4_put 5 none ∈ GW := gw_at 355 (by decide +kernel) (by decide +kernel)
theorem wd_co_X5_repeat : Cond.code yX5_repeat cX5_repeat 3 (some .int) ∈ GW := gw_at 362 (by decide +kernel) (by decide +kernel)
theorem wd_co_X4_partOf : Cond.code yX4_partOf cX4_partOf 3 (some .int) ∈ GW := gw_at 367 (by decide +kernel) (by decide +kernel)
theorem wd_co_X5_passages : Cond.code yX5_passages cX5_passages 3 (some .int) ∈ GW := gw_at 374 (by decide +kernel) (by decide +kernel)
theorem wd_co_X0_countDifferent : Cond.code yX0_countDifferent cX0_countDifferent 4 (some .int) ∈ GW := gw_at 379 (by decide +kernel) (by decide +kernel)
theorem wd_co_X0_cameBefore : Cond.code yX0_cameBefore cX0_cameBefore 4 (some .boolean) ∈ GW := gw_at 383 (by decide +kernel) (by decide +kernel)
theorem wd_co_X5_period : Cond.code yX5_period cX5_period 2 (some .int) ∈ GW := gw_at 390 (by decide +kernel) (by decide +kernel)
theorem wd_co_X0_leastPeriod : Cond.code yX0_leastPeriod cX0_leastPeriod 2 (some .int) ∈ GW := gw_at 394 (by decide +kernel) (by decide +kernel)
theorem wd_co_X5_alike : Cond.code yX5_alike cX5_alike 6 (some .int) ∈ GW := gw_at 402 (by decide +kernel) (by decide +kernel)
theorem wd_co_X0_countSame : Cond.code yX0_countSame cX0_countSame 6 (some .int) ∈ GW := gw_at 423 (by decide +kernel) (by decide +kernel)
theorem wd_co_X5_motive : Cond.code yX5_motive cX5_motive 4 (some .int) ∈ GW := gw_at 430 (by decide +kernel) (by decide +kernel)
theorem wd_co_X5_form : Cond.code yX5_form cX5_form 4 (some .int) ∈ GW := gw_at 438 (by decide +kernel) (by decide +kernel)
theorem wd_co_X5_isForm : Cond.code yX5_isForm cX5_isForm 1 (some .boolean) ∈ GW := gw_at 441 (by decide +kernel) (by decide +kernel)
theorem wd_co_X5_formPitch : Cond.code yX5_formPitch cX5_formPitch 5 (some .int) ∈ GW := gw_at 446 (by decide +kernel) (by decide +kernel)
theorem wd_co_X5_placeInTheme : Cond.code yX5_placeInTheme cX5_placeInTheme 4 (some .int) ∈ GW := gw_at 450 (by decide +kernel) (by decide +kernel)
theorem wd_co_X5_formLength : Cond.code yX5_formLength cX5_formLength 3 (some .int) ∈ GW := gw_at 454 (by decide +kernel) (by decide +kernel)
theorem wd_co_X5_find : Cond.code yX5_find cX5_find 5 (some .int) ∈ GW := gw_at 461 (by decide +kernel) (by decide +kernel)
theorem wd_co_X5_isScale : Cond.code yX5_isScale cX5_isScale 3 (some .boolean) ∈ GW := gw_at 464 (by decide +kernel) (by decide +kernel)
theorem wd_co_X5_lookForSought : Cond.code yX5_lookForSought cX5_lookForSought 4 none ∈ GW := gw_at 470 (by decide +kernel) (by decide +kernel)
theorem wd_co_X5_isSoughtAt : Cond.code yX5_isSoughtAt cX5_isSoughtAt 5 (some .boolean) ∈ GW := gw_at 474 (by decide +kernel) (by decide +kernel)
theorem wd_co_X3_append : Cond.code yX3_append cX3_append 2 none ∈ GW := gw_at 479 (by decide +kernel) (by decide +kernel)
theorem wd_co_X5_answer : Cond.code yX5_answer cX5_answer 4 (some .int) ∈ GW := gw_at 486 (by decide +kernel) (by decide +kernel)
theorem wd_co_X5_isKeyAndHead : Cond.code yX5_isKeyAndHead cX5_isKeyAndHead 2 (some .boolean) ∈ GW := gw_at 489 (by decide +kernel) (by decide +kernel)
theorem wd_co_X5_answerPitch : Cond.code yX5_answerPitch cX5_answerPitch 6 (some .int) ∈ GW := gw_at 494 (by decide +kernel) (by decide +kernel)
theorem wd_co_J9_floorMod_7cf53 : Cond.code yJ9_floorMod_7cf53 cJ9_floorMod_7cf53 3 (some .int) ∈ GW := gw_at 497 (by decide +kernel) (by decide +kernel)
theorem wd_co_X5_entries : Cond.code yX5_entries cX5_entries 4 (some .int) ∈ GW := gw_at 504 (by decide +kernel) (by decide +kernel)
theorem wd_co_X5_found : Cond.code yX5_found cX5_found 2 (some .int) ∈ GW := gw_at 512 (by decide +kernel) (by decide +kernel)
theorem wd_co_X5_sections : Cond.code yX5_sections cX5_sections 3 (some .int) ∈ GW := gw_at 520 (by decide +kernel) (by decide +kernel)
theorem wd_co_X2_part : Cond.code yX2_part cX2_part 6 none ∈ GW := gw_at 525 (by decide +kernel) (by decide +kernel)
theorem wd_co_X2_weighFrom : Cond.code yX2_weighFrom cX2_weighFrom 10 none ∈ GW := gw_at 529 (by decide +kernel) (by decide +kernel)
theorem wd_co_J9_max_7cf53 : Cond.code yJ9_max_7cf53 cJ9_max_7cf53 2 (some .int) ∈ GW := gw_at 532 (by decide +kernel) (by decide +kernel)
theorem wd_co_J9_min_7cf53 : Cond.code yJ9_min_7cf53 cJ9_min_7cf53 2 (some .int) ∈ GW := gw_at 535 (by decide +kernel) (by decide +kernel)
theorem wd_co_X2_isBetter : Cond.code yX2_isBetter cX2_isBetter 4 (some .boolean) ∈ GW := gw_at 539 (by decide +kernel) (by decide +kernel)
theorem wd_co_X5_section : Cond.code yX5_section cX5_section 2 (some .int) ∈ GW := gw_at 546 (by decide +kernel) (by decide +kernel)
theorem wd_co_X5_of : Cond.code yX5_of cX5_of 2 (some .int) ∈ GW := gw_at 553 (by decide +kernel) (by decide +kernel)
theorem wd_co_X6_init : Cond.code yX6_init cX6_init 1 none ∈ GW := gw_at 559 (by decide +kernel) (by decide +kernel)
theorem wd_co_X6_begin : Cond.code yX6_begin cX6_begin 1 none ∈ GW := gw_at 564 (by decide +kernel) (by decide +kernel)
theorem wd_co_X6_thrown : Cond.code yX6_thrown cX6_thrown 1 (some .int) ∈ GW := gw_at 623 (by decide +kernel) (by decide +kernel)
theorem wd_co_X6_clear : Cond.code yX6_clear cX6_clear 2 (some .int) ∈ GW := gw_at 627 (by decide +kernel) (by decide +kernel)
theorem wd_co_X6_note : Cond.code yX6_note cX6_note 4 (some .int) ∈ GW := gw_at 631 (by decide +kernel) (by decide +kernel)
theorem wd_co_X6_isIn : Cond.code yX6_isIn cX6_isIn 6 (some .boolean) ∈ GW := gw_at 635 (by decide +kernel) (by decide +kernel)
theorem wd_co_X6_goesOn : Cond.code yX6_goesOn cX6_goesOn 3 (some .boolean) ∈ GW := gw_at 640 (by decide +kernel) (by decide +kernel)
theorem wd_co_X6_drop : Cond.code yX6_drop cX6_drop 2 (some .int) ∈ GW := gw_at 644 (by decide +kernel) (by decide +kernel)
theorem wd_co_X6_items : Cond.code yX6_items cX6_items 2 (some .int) ∈ GW := gw_at 648 (by decide +kernel) (by decide +kernel)
theorem wd_co_X6_isView : Cond.code yX6_isView cX6_isView 1 (some .boolean) ∈ GW := gw_at 651 (by decide +kernel) (by decide +kernel)
theorem wd_co_X6_many : Cond.code yX6_many cX6_many 2 (some .int) ∈ GW := gw_at 656 (by decide +kernel) (by decide +kernel)
theorem wd_co_X6_item : Cond.code yX6_item cX6_item 3 (some .int) ∈ GW := gw_at 660 (by decide +kernel) (by decide +kernel)
theorem wd_co_X6_itemOf : Cond.code yX6_itemOf cX6_itemOf 3 (some .int) ∈ GW := gw_at 664 (by decide +kernel) (by decide +kernel)
theorem wd_co_X6_repeats : Cond.code yX6_repeats cX6_repeats 7 (some .int) ∈ GW := gw_at 668 (by decide +kernel) (by decide +kernel)
theorem wd_co_X6_common : Cond.code yX6_common cX6_common 5 (some .int) ∈ GW := gw_at 673 (by decide +kernel) (by decide +kernel)
theorem wd_co_X6_repeat : Cond.code yX6_repeat cX6_repeat 3 (some .int) ∈ GW := gw_at 677 (by decide +kernel) (by decide +kernel)
theorem wd_co_X6_passages : Cond.code yX6_passages cX6_passages 7 (some .int) ∈ GW := gw_at 682 (by decide +kernel) (by decide +kernel)
theorem wd_co_X6_period : Cond.code yX6_period cX6_period 3 (some .int) ∈ GW := gw_at 686 (by decide +kernel) (by decide +kernel)
theorem wd_co_X6_alike : Cond.code yX6_alike cX6_alike 8 (some .int) ∈ GW := gw_at 690 (by decide +kernel) (by decide +kernel)
theorem wd_co_X6_motive : Cond.code yX6_motive cX6_motive 4 (some .int) ∈ GW := gw_at 694 (by decide +kernel) (by decide +kernel)
theorem wd_co_X6_form : Cond.code yX6_form cX6_form 4 (some .int) ∈ GW := gw_at 699 (by decide +kernel) (by decide +kernel)
theorem wd_co_X6_formPitch : Cond.code yX6_formPitch cX6_formPitch 4 (some .int) ∈ GW := gw_at 704 (by decide +kernel) (by decide +kernel)
theorem wd_co_X6_source : Cond.code yX6_source cX6_source 3 (some .int) ∈ GW := gw_at 708 (by decide +kernel) (by decide +kernel)
theorem wd_co_X6_find : Cond.code yX6_find cX6_find 8 (some .int) ∈ GW := gw_at 712 (by decide +kernel) (by decide +kernel)
theorem wd_co_X6_goes : Cond.code yX6_goes cX6_goes 4 (some .boolean) ∈ GW := gw_at 717 (by decide +kernel) (by decide +kernel)
theorem wd_co_X6_answer : Cond.code yX6_answer cX6_answer 4 (some .int) ∈ GW := gw_at 721 (by decide +kernel) (by decide +kernel)
theorem wd_co_X6_answerPitch : Cond.code yX6_answerPitch cX6_answerPitch 6 (some .int) ∈ GW := gw_at 726 (by decide +kernel) (by decide +kernel)
theorem wd_co_X6_entries : Cond.code yX6_entries cX6_entries 4 (some .int) ∈ GW := gw_at 730 (by decide +kernel) (by decide +kernel)
theorem wd_co_X6_found : Cond.code yX6_found cX6_found 2 (some .int) ∈ GW := gw_at 734 (by decide +kernel) (by decide +kernel)
theorem wd_co_X6_sections : Cond.code yX6_sections cX6_sections 8 (some .int) ∈ GW := gw_at 738 (by decide +kernel) (by decide +kernel)
theorem wd_co_X6_costOf : Cond.code yX6_costOf cX6_costOf 8 (some .int) ∈ GW := gw_at 744 (by decide +kernel) (by decide +kernel)
theorem wd_co_X6_section : Cond.code yX6_section cX6_section 2 (some .int) ∈ GW := gw_at 748 (by decide +kernel) (by decide +kernel)
theorem wd_co_X6_of : Cond.code yX6_of cX6_of 2 (some .int) ∈ GW := gw_at 752 (by decide +kernel) (by decide +kernel)
theorem wd_co_L_note : Cond.codeWith yL_note cL_note 5 (some .int) [(0, 10, 13, 13), (0, 10, 17, 15)] ∈ GW := gw_at 176 (by decide +kernel) (by decide +kernel)
theorem wd_co_L_drop : Cond.codeWith yL_drop cL_drop 4 (some .int) [(0, 9, 12, 13)] ∈ GW := gw_at 276 (by decide +kernel) (by decide +kernel)
theorem wd_co_L_items : Cond.codeWith yL_items cL_items 4 (some .int) [(0, 9, 12, 13)] ∈ GW := gw_at 284 (by decide +kernel) (by decide +kernel)
theorem wd_co_L_item : Cond.codeWith yL_item cL_item 5 (some .int) [(0, 10, 13, 13)] ∈ GW := gw_at 298 (by decide +kernel) (by decide +kernel)
theorem wd_co_L_repeats : Cond.codeWith yL_repeats cL_repeats 5 (some .int) [(0, 10, 13, 13)] ∈ GW := gw_at 316 (by decide +kernel) (by decide +kernel)
theorem wd_co_L_repeat : Cond.codeWith yL_repeat cL_repeat 5 (some .int) [(0, 10, 13, 13)] ∈ GW := gw_at 358 (by decide +kernel) (by decide +kernel)
theorem wd_co_L_passages : Cond.codeWith yL_passages cL_passages 5 (some .int) [(0, 10, 13, 13)] ∈ GW := gw_at 370 (by decide +kernel) (by decide +kernel)
theorem wd_co_L_period : Cond.codeWith yL_period cL_period 4 (some .int) [(0, 9, 12, 13)] ∈ GW := gw_at 386 (by decide +kernel) (by decide +kernel)
theorem wd_co_L_alike : Cond.codeWith yL_alike cL_alike 7 (some .int) [(0, 14, 17, 13), (0, 14, 21, 43)] ∈ GW := gw_at 397 (by decide +kernel) (by decide +kernel)
theorem wd_co_L_motive : Cond.codeWith yL_motive cL_motive 5 (some .int) [(0, 10, 13, 13)] ∈ GW := gw_at 426 (by decide +kernel) (by decide +kernel)
theorem wd_co_L_form : Cond.codeWith yL_form cL_form 6 (some .int) [(0, 12, 15, 13)] ∈ GW := gw_at 434 (by decide +kernel) (by decide +kernel)
theorem wd_co_L_find : Cond.codeWith yL_find cL_find 6 (some .int) [(0, 12, 15, 13), (0, 12, 19, 15)] ∈ GW := gw_at 457 (by decide +kernel) (by decide +kernel)
theorem wd_co_L_answer : Cond.codeWith yL_answer cL_answer 6 (some .int) [(0, 12, 15, 13)] ∈ GW := gw_at 482 (by decide +kernel) (by decide +kernel)
theorem wd_co_L_entries : Cond.codeWith yL_entries cL_entries 5 (some .int) [(0, 10, 13, 13), (0, 10, 17, 15)] ∈ GW := gw_at 500 (by decide +kernel) (by decide +kernel)
theorem wd_co_L_found : Cond.codeWith yL_found cL_found 4 (some .int) [(0, 9, 12, 13)] ∈ GW := gw_at 508 (by decide +kernel) (by decide +kernel)
theorem wd_co_L_sections : Cond.codeWith yL_sections cL_sections 5 (some .int) [(0, 10, 13, 13)] ∈ GW := gw_at 516 (by decide +kernel) (by decide +kernel)
theorem wd_co_L_section : Cond.codeWith yL_section cL_section 4 (some .int) [(0, 9, 12, 13)] ∈ GW := gw_at 542 (by decide +kernel) (by decide +kernel)
theorem wd_co_L_of : Cond.codeWith yL_of cL_of 4 (some .int) [(0, 9, 12, 13)] ∈ GW := gw_at 549 (by decide +kernel) (by decide +kernel)
section CLS
variable {R : Room} {s : State} {args : Array Value}
theorem wt_mn_X5_9 : Cond.methodLinkNest RX5 9 yX1_init "FormFinds" ∈ lw_tbl := List.mem_of_getElem? (i := 51) (by decide +kernel)
theorem wd_im_X1_init : Cond.instanceMethod yX1_init ∈ GW := gw_at 52 (by decide +kernel) (by decide +kernel)
theorem wt_mn_X5_24 : Cond.methodLinkNest RX5 24 yX0_init "FormFinds" ∈ lw_tbl := List.mem_of_getElem? (i := 76) (by decide +kernel)
theorem wd_im_X0_init : Cond.instanceMethod yX0_init ∈ GW := gw_at 77 (by decide +kernel) (by decide +kernel)
theorem wt_mn_X5_31 : Cond.methodLinkNest RX5 31 yX4_init "FormFinds" ∈ lw_tbl := List.mem_of_getElem? (i := 90) (by decide +kernel)
theorem wd_im_X4_init : Cond.instanceMethod yX4_init ∈ GW := gw_at 91 (by decide +kernel) (by decide +kernel)
theorem wt_mn_X5_38 : Cond.methodLinkNest RX5 38 yX3_init "FormFinds" ∈ lw_tbl := List.mem_of_getElem? (i := 107) (by decide +kernel)
theorem wd_im_X3_init : Cond.instanceMethod yX3_init ∈ GW := gw_at 108 (by decide +kernel) (by decide +kernel)
theorem wt_mn_X5_45 : Cond.methodLinkNest RX5 45 yX2_init "FormFinds" ∈ lw_tbl := List.mem_of_getElem? (i := 122) (by decide +kernel)
theorem wd_im_X2_init : Cond.instanceMethod yX2_init ∈ GW := gw_at 123 (by decide +kernel) (by decide +kernel)
theorem wd_ml_X5_60 : Cond.methodLink RX5 60 yX5_isWithin ∈ GW := gw_at 183 (by decide +kernel) (by decide +kernel)
theorem wd_st_X5_isWithin : Cond.static yX5_isWithin ∈ GW := gw_at 184 (by decide +kernel) (by decide +kernel)
theorem cv_X5_60 {k mc ms : Nat} (hg : ∀ w ∈ GW, w.before args s = true) (hR : k + 1 ≤ R.frames ∧ 8 + (3 + 11) + 32 * k ≤ R.locals) : CallB R s args RX5 60 yX5_isWithin cX5_isWithin 3 (some .boolean) (ww yX5_isWithin cX5_isWithin 3 (some .boolean)) { frames := k, cells := mc, slots := ms, locals := 32 * k } mc ms 3 ∧ (Cond.static yX5_isWithin).before args s = true := va_cwS 3 hg (gw_S wd_ml_X5_60 wd_st_X5_isWithin wd_in_X5 wd_co_X5_isWithin) rfl rfl rfl (by decide +kernel) hR
theorem wd_ml_X5_76 : Cond.methodLink RX5 76 yX1_append ∈ GW := gw_at 270 (by decide +kernel) (by decide +kernel)
theorem wd_im_X1_append : Cond.instanceMethod yX1_append ∈ GW := gw_at 271 (by decide +kernel) (by decide +kernel)
theorem wd_se_X1_append : Cond.selects RX1 yX1_append yX1_append ∈ GW := gw_at 272 (by decide +kernel) (by decide +kernel)
theorem cv_X5_76 {k mc ms : Nat} (hg : ∀ w ∈ GW, w.before args s = true) (hR : k + 1 ≤ R.frames ∧ 8 + (3 + 11) + 32 * k ≤ R.locals) : CallW R s args RX5 RX1 76 yX1_append cX1_append 3 none (ww yX1_append cX1_append 3 none) { frames := k, cells := mc, slots := ms, locals := 32 * k } mc ms 2 := cwV 2 hg (gw_V wd_ml_X5_76 wd_im_X1_append wd_se_X1_append wd_in_X1 wd_co_X1_append) rfl rfl rfl (by decide +kernel) hR
theorem wd_ml_X5_82 : Cond.methodLink RX5 82 yX5_isView ∈ GW := gw_at 289 (by decide +kernel) (by decide +kernel)
theorem wd_st_X5_isView : Cond.static yX5_isView ∈ GW := gw_at 290 (by decide +kernel) (by decide +kernel)
theorem cv_X5_82 {k mc ms : Nat} (hg : ∀ w ∈ GW, w.before args s = true) (hR : k + 1 ≤ R.frames ∧ 8 + (1 + 11) + 32 * k ≤ R.locals) : CallB R s args RX5 82 yX5_isView cX5_isView 1 (some .boolean) (ww yX5_isView cX5_isView 1 (some .boolean)) { frames := k, cells := mc, slots := ms, locals := 32 * k } mc ms 1 ∧ (Cond.static yX5_isView).before args s = true := va_cwS 1 hg (gw_S wd_ml_X5_82 wd_st_X5_isView wd_in_X5 wd_co_X5_isView) rfl rfl rfl (by decide +kernel) hR
theorem wd_ml_X5_88 : Cond.methodLink RX5 88 yX0_countIn ∈ GW := gw_at 293 (by decide +kernel) (by decide +kernel)
theorem wd_st_X0_countIn : Cond.static yX0_countIn ∈ GW := gw_at 294 (by decide +kernel) (by decide +kernel)
theorem cv_X5_88 {k mc ms : Nat} (hg : ∀ w ∈ GW, w.before args s = true) (hR : k + 1 ≤ R.frames ∧ 8 + (3 + 11) + 32 * k ≤ R.locals) : CallB R s args RX5 88 yX0_countIn cX0_countIn 3 (some .int) (ww yX0_countIn cX0_countIn 3 (some .int)) { frames := k, cells := mc, slots := ms, locals := 32 * k } mc ms 2 ∧ (Cond.static yX0_countIn).before args s = true := va_cwS 2 hg (gw_S wd_ml_X5_88 wd_st_X0_countIn wd_in_X0 wd_co_X0_countIn) rfl rfl rfl (by decide +kernel) hR
theorem wd_ml_X5_94 : Cond.methodLink RX5 94 yX0_valueIn ∈ GW := gw_at 304 (by decide +kernel) (by decide +kernel)
theorem wd_st_X0_valueIn : Cond.static yX0_valueIn ∈ GW := gw_at 305 (by decide +kernel) (by decide +kernel)
theorem cv_X5_94 {k mc ms : Nat} (hg : ∀ w ∈ GW, w.before args s = true) (hR : k + 1 ≤ R.frames ∧ 8 + (3 + 11) + 32 * k ≤ R.locals) : CallB R s args RX5 94 yX0_valueIn cX0_valueIn 3 (some .int) (ww yX0_valueIn cX0_valueIn 3 (some .int)) { frames := k, cells := mc, slots := ms, locals := 32 * k } mc ms 3 ∧ (Cond.static yX0_valueIn).before args s = true := va_cwS 3 hg (gw_S wd_ml_X5_94 wd_st_X0_valueIn wd_in_X0 wd_co_X0_valueIn) rfl rfl rfl (by decide +kernel) hR
theorem wd_ml_X5_100 : Cond.methodLink RX5 100 yX0_read ∈ GW := gw_at 322 (by decide +kernel) (by decide +kernel)
theorem wd_im_X0_read : Cond.instanceMethod yX0_read ∈ GW := gw_at 323 (by decide +kernel) (by decide +kernel)
theorem wd_se_X0_read : Cond.selects RX0 yX0_read yX0_read ∈ GW := gw_at 324 (by decide +kernel) (by decide +kernel)
theorem cv_X5_100 {k mc ms : Nat} (hg : ∀ w ∈ GW, w.before args s = true) (hR : k + 1 ≤ R.frames ∧ 8 + (4 + 11) + 32 * k ≤ R.locals) : CallW R s args RX5 RX0 100 yX0_read cX0_read 4 none (ww yX0_read cX0_read 4 none) { frames := k, cells := mc, slots := ms, locals := 32 * k } mc ms 2 := cwV 2 hg (gw_V wd_ml_X5_100 wd_im_X0_read wd_se_X0_read wd_in_X0 wd_co_X0_read) rfl rfl rfl (by decide +kernel) hR
theorem wd_ml_X5_104 : Cond.methodLink RX5 104 yX4_gather ∈ GW := gw_at 328 (by decide +kernel) (by decide +kernel)
theorem wd_im_X4_gather : Cond.instanceMethod yX4_gather ∈ GW := gw_at 329 (by decide +kernel) (by decide +kernel)
theorem wd_se_X4_gather : Cond.selects RX4 yX4_gather yX4_gather ∈ GW := gw_at 330 (by decide +kernel) (by decide +kernel)
theorem cv_X5_104 {k mc ms : Nat} (hg : ∀ w ∈ GW, w.before args s = true) (hR : k + 1 ≤ R.frames ∧ 8 + (3 + 11) + 32 * k ≤ R.locals) : CallW R s args RX5 RX4 104 yX4_gather cX4_gather 3 none (ww yX4_gather cX4_gather 3 none) { frames := k, cells := mc, slots := ms, locals := 32 * k } mc ms 2 := cwV 2 hg (gw_V wd_ml_X5_104 wd_im_X4_gather wd_se_X4_gather wd_in_X4 wd_co_X4_gather) rfl rfl rfl (by decide +kernel) hR
theorem wd_ml_X5_110 : Cond.methodLink RX5 110 yX4_partOf ∈ GW := gw_at 364 (by decide +kernel) (by decide +kernel)
theorem wd_im_X4_partOf : Cond.instanceMethod yX4_partOf ∈ GW := gw_at 365 (by decide +kernel) (by decide +kernel)
theorem wd_se_X4_partOf : Cond.selects RX4 yX4_partOf yX4_partOf ∈ GW := gw_at 366 (by decide +kernel) (by decide +kernel)
theorem cv_X5_110 {k mc ms : Nat} (hg : ∀ w ∈ GW, w.before args s = true) (hR : k + 1 ≤ R.frames ∧ 8 + (3 + 11) + 32 * k ≤ R.locals) : CallW R s args RX5 RX4 110 yX4_partOf cX4_partOf 3 (some .int) (ww yX4_partOf cX4_partOf 3 (some .int)) { frames := k, cells := mc, slots := ms, locals := 32 * k } mc ms 2 := cwV 2 hg (gw_V wd_ml_X5_110 wd_im_X4_partOf wd_se_X4_partOf wd_in_X4 wd_co_X4_partOf) rfl rfl rfl (by decide +kernel) hR
theorem wd_ml_X5_116 : Cond.methodLink RX5 116 yX0_countDifferent ∈ GW := gw_at 376 (by decide +kernel) (by decide +kernel)
theorem wd_im_X0_countDifferent : Cond.instanceMethod yX0_countDifferent ∈ GW := gw_at 377 (by decide +kernel) (by decide +kernel)
theorem wd_se_X0_countDifferent : Cond.selects RX0 yX0_countDifferent yX0_countDifferent ∈ GW := gw_at 378 (by decide +kernel) (by decide +kernel)
theorem cv_X5_116 {k mc ms : Nat} (hg : ∀ w ∈ GW, w.before args s = true) (hR : k + 1 ≤ R.frames ∧ 8 + (4 + 11) + 32 * k ≤ R.locals) : CallW R s args RX5 RX0 116 yX0_countDifferent cX0_countDifferent 4 (some .int) (ww yX0_countDifferent cX0_countDifferent 4 (some .int)) { frames := k, cells := mc, slots := ms, locals := 32 * k } mc ms 1 := cwV 1 hg (gw_V wd_ml_X5_116 wd_im_X0_countDifferent wd_se_X0_countDifferent wd_in_X0 wd_co_X0_countDifferent) rfl rfl rfl (by decide +kernel) hR
theorem wd_ml_X5_120 : Cond.methodLink RX5 120 yX0_leastPeriod ∈ GW := gw_at 391 (by decide +kernel) (by decide +kernel)
theorem wd_im_X0_leastPeriod : Cond.instanceMethod yX0_leastPeriod ∈ GW := gw_at 392 (by decide +kernel) (by decide +kernel)
theorem wd_se_X0_leastPeriod : Cond.selects RX0 yX0_leastPeriod yX0_leastPeriod ∈ GW := gw_at 393 (by decide +kernel) (by decide +kernel)
theorem cv_X5_120 {k mc ms : Nat} (hg : ∀ w ∈ GW, w.before args s = true) (hR : k + 1 ≤ R.frames ∧ 8 + (2 + 11) + 32 * k ≤ R.locals) : CallW R s args RX5 RX0 120 yX0_leastPeriod cX0_leastPeriod 2 (some .int) (ww yX0_leastPeriod cX0_leastPeriod 2 (some .int)) { frames := k, cells := mc, slots := ms, locals := 32 * k } mc ms 0 := cwV 0 hg (gw_V wd_ml_X5_120 wd_im_X0_leastPeriod wd_se_X0_leastPeriod wd_in_X0 wd_co_X0_leastPeriod) rfl rfl rfl (by decide +kernel) hR
theorem wd_ml_X5_131 : Cond.methodLink RX5 131 yX0_countSame ∈ GW := gw_at 420 (by decide +kernel) (by decide +kernel)
theorem wd_im_X0_countSame : Cond.instanceMethod yX0_countSame ∈ GW := gw_at 421 (by decide +kernel) (by decide +kernel)
theorem wd_se_X0_countSame : Cond.selects RX0 yX0_countSame yX0_countSame ∈ GW := gw_at 422 (by decide +kernel) (by decide +kernel)
theorem cv_X5_131 {k mc ms : Nat} (hg : ∀ w ∈ GW, w.before args s = true) (hR : k + 1 ≤ R.frames ∧ 8 + (6 + 11) + 32 * k ≤ R.locals) : CallW R s args RX5 RX0 131 yX0_countSame cX0_countSame 6 (some .int) (ww yX0_countSame cX0_countSame 6 (some .int)) { frames := k, cells := mc, slots := ms, locals := 32 * k } mc ms 3 := cwV 3 hg (gw_V wd_ml_X5_131 wd_im_X0_countSame wd_se_X0_countSame wd_in_X0 wd_co_X0_countSame) rfl rfl rfl (by decide +kernel) hR
theorem wd_ml_X5_144 : Cond.methodLink RX5 144 yX5_isForm ∈ GW := gw_at 439 (by decide +kernel) (by decide +kernel)
theorem wd_st_X5_isForm : Cond.static yX5_isForm ∈ GW := gw_at 440 (by decide +kernel) (by decide +kernel)
theorem cv_X5_144 {k mc ms : Nat} (hg : ∀ w ∈ GW, w.before args s = true) (hR : k + 1 ≤ R.frames ∧ 8 + (1 + 11) + 32 * k ≤ R.locals) : CallB R s args RX5 144 yX5_isForm cX5_isForm 1 (some .boolean) (ww yX5_isForm cX5_isForm 1 (some .boolean)) { frames := k, cells := mc, slots := ms, locals := 32 * k } mc ms 1 ∧ (Cond.static yX5_isForm).before args s = true := va_cwS 1 hg (gw_S wd_ml_X5_144 wd_st_X5_isForm wd_in_X5 wd_co_X5_isForm) rfl rfl rfl (by decide +kernel) hR
theorem wd_ml_X5_149 : Cond.methodLink RX5 149 yX5_formPitch ∈ GW := gw_at 443 (by decide +kernel) (by decide +kernel)
theorem wd_im_X5_formPitch : Cond.instanceMethod yX5_formPitch ∈ GW := gw_at 445 (by decide +kernel) (by decide +kernel)
theorem wd_se_X5_formPitch : Cond.selects RX5 yX5_formPitch yX5_formPitch ∈ GW := gw_at 7 (by decide +kernel) (by decide +kernel)
theorem cv_X5_149 {k mc ms : Nat} (hg : ∀ w ∈ GW, w.before args s = true) (hR : k + 1 ≤ R.frames ∧ 8 + (5 + 11) + 32 * k ≤ R.locals) : CallW R s args RX5 RX5 149 yX5_formPitch cX5_formPitch 5 (some .int) (ww yX5_formPitch cX5_formPitch 5 (some .int)) { frames := k, cells := mc, slots := ms, locals := 32 * k } mc ms 2 := cwV 2 hg (gw_V wd_ml_X5_149 wd_im_X5_formPitch wd_se_X5_formPitch wd_in_X5 wd_co_X5_formPitch) rfl rfl rfl (by decide +kernel) hR
theorem wd_ml_X5_152 : Cond.methodLink RX5 152 yX5_formLength ∈ GW := gw_at 451 (by decide +kernel) (by decide +kernel)
theorem wd_im_X5_formLength : Cond.instanceMethod yX5_formLength ∈ GW := gw_at 453 (by decide +kernel) (by decide +kernel)
theorem wd_se_X5_formLength : Cond.selects RX5 yX5_formLength yX5_formLength ∈ GW := gw_at 9 (by decide +kernel) (by decide +kernel)
theorem cv_X5_152 {k mc ms : Nat} (hg : ∀ w ∈ GW, w.before args s = true) (hR : k + 1 ≤ R.frames ∧ 8 + (3 + 11) + 32 * k ≤ R.locals) : CallW R s args RX5 RX5 152 yX5_formLength cX5_formLength 3 (some .int) (ww yX5_formLength cX5_formLength 3 (some .int)) { frames := k, cells := mc, slots := ms, locals := 32 * k } mc ms 2 := cwV 2 hg (gw_V wd_ml_X5_152 wd_im_X5_formLength wd_se_X5_formLength wd_in_X5 wd_co_X5_formLength) rfl rfl rfl (by decide +kernel) hR
theorem wd_ml_X5_155 : Cond.methodLink RX5 155 yX5_isScale ∈ GW := gw_at 462 (by decide +kernel) (by decide +kernel)
theorem wd_st_X5_isScale : Cond.static yX5_isScale ∈ GW := gw_at 463 (by decide +kernel) (by decide +kernel)
theorem cv_X5_155 {k mc ms : Nat} (hg : ∀ w ∈ GW, w.before args s = true) (hR : k + 1 ≤ R.frames ∧ 8 + (3 + 11) + 32 * k ≤ R.locals) : CallB R s args RX5 155 yX5_isScale cX5_isScale 3 (some .boolean) (ww yX5_isScale cX5_isScale 3 (some .boolean)) { frames := k, cells := mc, slots := ms, locals := 32 * k } mc ms 2 ∧ (Cond.static yX5_isScale).before args s = true := va_cwS 2 hg (gw_S wd_ml_X5_155 wd_st_X5_isScale wd_in_X5 wd_co_X5_isScale) rfl rfl rfl (by decide +kernel) hR
theorem wd_ml_X5_163 : Cond.methodLink RX5 163 yX5_lookForSought ∈ GW := gw_at 467 (by decide +kernel) (by decide +kernel)
theorem wd_im_X5_lookForSought : Cond.instanceMethod yX5_lookForSought ∈ GW := gw_at 469 (by decide +kernel) (by decide +kernel)
theorem wd_se_X5_lookForSought : Cond.selects RX5 yX5_lookForSought yX5_lookForSought ∈ GW := gw_at 10 (by decide +kernel) (by decide +kernel)
theorem cv_X5_163 {k mc ms : Nat} (hg : ∀ w ∈ GW, w.before args s = true) (hR : k + 1 ≤ R.frames ∧ 8 + (4 + 11) + 32 * k ≤ R.locals) : CallW R s args RX5 RX5 163 yX5_lookForSought cX5_lookForSought 4 none (ww yX5_lookForSought cX5_lookForSought 4 none) { frames := k, cells := mc, slots := ms, locals := 32 * k } mc ms 2 := cwV 2 hg (gw_V wd_ml_X5_163 wd_im_X5_lookForSought wd_se_X5_lookForSought wd_in_X5 wd_co_X5_lookForSought) rfl rfl rfl (by decide +kernel) hR
theorem wd_ml_X5_166 : Cond.methodLink RX5 166 yX5_isKeyAndHead ∈ GW := gw_at 487 (by decide +kernel) (by decide +kernel)
theorem wd_st_X5_isKeyAndHead : Cond.static yX5_isKeyAndHead ∈ GW := gw_at 488 (by decide +kernel) (by decide +kernel)
theorem cv_X5_166 {k mc ms : Nat} (hg : ∀ w ∈ GW, w.before args s = true) (hR : k + 1 ≤ R.frames ∧ 8 + (2 + 11) + 32 * k ≤ R.locals) : CallB R s args RX5 166 yX5_isKeyAndHead cX5_isKeyAndHead 2 (some .boolean) (ww yX5_isKeyAndHead cX5_isKeyAndHead 2 (some .boolean)) { frames := k, cells := mc, slots := ms, locals := 32 * k } mc ms 2 ∧ (Cond.static yX5_isKeyAndHead).before args s = true := va_cwS 2 hg (gw_S wd_ml_X5_166 wd_st_X5_isKeyAndHead wd_in_X5 wd_co_X5_isKeyAndHead) rfl rfl rfl (by decide +kernel) hR
theorem wd_ml_X5_171 : Cond.methodLink RX5 171 yX5_answerPitch ∈ GW := gw_at 491 (by decide +kernel) (by decide +kernel)
theorem wd_im_X5_answerPitch : Cond.instanceMethod yX5_answerPitch ∈ GW := gw_at 493 (by decide +kernel) (by decide +kernel)
theorem wd_se_X5_answerPitch : Cond.selects RX5 yX5_answerPitch yX5_answerPitch ∈ GW := gw_at 12 (by decide +kernel) (by decide +kernel)
theorem cv_X5_171 {k mc ms : Nat} (hg : ∀ w ∈ GW, w.before args s = true) (hR : k + 1 ≤ R.frames ∧ 8 + (6 + 11) + 32 * k ≤ R.locals) : CallW R s args RX5 RX5 171 yX5_answerPitch cX5_answerPitch 6 (some .int) (ww yX5_answerPitch cX5_answerPitch 6 (some .int)) { frames := k, cells := mc, slots := ms, locals := 32 * k } mc ms 3 := cwV 3 hg (gw_V wd_ml_X5_171 wd_im_X5_answerPitch wd_se_X5_answerPitch wd_in_X5 wd_co_X5_answerPitch) rfl rfl rfl (by decide +kernel) hR
theorem wd_ml_X5_183 : Cond.methodLink RX5 183 yX2_part ∈ GW := gw_at 522 (by decide +kernel) (by decide +kernel)
theorem wd_im_X2_part : Cond.instanceMethod yX2_part ∈ GW := gw_at 523 (by decide +kernel) (by decide +kernel)
theorem wd_se_X2_part : Cond.selects RX2 yX2_part yX2_part ∈ GW := gw_at 524 (by decide +kernel) (by decide +kernel)
theorem cv_X5_183 {k mc ms : Nat} (hg : ∀ w ∈ GW, w.before args s = true) (hR : k + 1 ≤ R.frames ∧ 8 + (6 + 11) + 32 * k ≤ R.locals) : CallW R s args RX5 RX2 183 yX2_part cX2_part 6 none (ww yX2_part cX2_part 6 none) { frames := k, cells := mc, slots := ms, locals := 32 * k } mc ms 3 := cwV 3 hg (gw_V wd_ml_X5_183 wd_im_X2_part wd_se_X2_part wd_in_X2 wd_co_X2_part) rfl rfl rfl (by decide +kernel) hR
theorem wd_ml_X5_190 : Cond.methodLink RX5 190 yX5_placeInTheme ∈ GW := gw_at 447 (by decide +kernel) (by decide +kernel)
theorem wd_im_X5_placeInTheme : Cond.instanceMethod yX5_placeInTheme ∈ GW := gw_at 449 (by decide +kernel) (by decide +kernel)
theorem wd_se_X5_placeInTheme : Cond.selects RX5 yX5_placeInTheme yX5_placeInTheme ∈ GW := gw_at 8 (by decide +kernel) (by decide +kernel)
theorem cv_X5_190 {k mc ms : Nat} (hg : ∀ w ∈ GW, w.before args s = true) (hR : k + 1 ≤ R.frames ∧ 8 + (4 + 11) + 32 * k ≤ R.locals) : CallW R s args RX5 RX5 190 yX5_placeInTheme cX5_placeInTheme 4 (some .int) (ww yX5_placeInTheme cX5_placeInTheme 4 (some .int)) { frames := k, cells := mc, slots := ms, locals := 32 * k } mc ms 2 := cwV 2 hg (gw_V wd_ml_X5_190 wd_im_X5_placeInTheme wd_se_X5_placeInTheme wd_in_X5 wd_co_X5_placeInTheme) rfl rfl rfl (by decide +kernel) hR
theorem wd_ml_X5_193 : Cond.methodLink RX5 193 yJ9_floorMod_7cf53 ∈ GW := gw_at 495 (by decide +kernel) (by decide +kernel)
theorem wd_st_J9_floorMod_7cf53 : Cond.static yJ9_floorMod_7cf53 ∈ GW := gw_at 496 (by decide +kernel) (by decide +kernel)
theorem cv_X5_193 {k mc ms : Nat} (hg : ∀ w ∈ GW, w.before args s = true) (hR : k + 1 ≤ R.frames ∧ 8 + (3 + 11) + 32 * k ≤ R.locals) : CallB R s args RX5 193 yJ9_floorMod_7cf53 cJ9_floorMod_7cf53 3 (some .int) (ww yJ9_floorMod_7cf53 cJ9_floorMod_7cf53 3 (some .int)) { frames := k, cells := mc, slots := ms, locals := 32 * k } mc ms 2 ∧ (Cond.static yJ9_floorMod_7cf53).before args s = true := va_cwS 2 hg (gw_S wd_ml_X5_193 wd_st_J9_floorMod_7cf53 wd_in_J9 wd_co_J9_floorMod_7cf53) rfl rfl rfl (by decide +kernel) hR
theorem wd_ml_X5_198 : Cond.methodLink RX5 198 yX5_isSoughtAt ∈ GW := gw_at 471 (by decide +kernel) (by decide +kernel)
theorem wd_im_X5_isSoughtAt : Cond.instanceMethod yX5_isSoughtAt ∈ GW := gw_at 473 (by decide +kernel) (by decide +kernel)
theorem wd_se_X5_isSoughtAt : Cond.selects RX5 yX5_isSoughtAt yX5_isSoughtAt ∈ GW := gw_at 11 (by decide +kernel) (by decide +kernel)
theorem cv_X5_198 {k mc ms : Nat} (hg : ∀ w ∈ GW, w.before args s = true) (hR : k + 1 ≤ R.frames ∧ 8 + (5 + 11) + 32 * k ≤ R.locals) : CallW R s args RX5 RX5 198 yX5_isSoughtAt cX5_isSoughtAt 5 (some .boolean) (ww yX5_isSoughtAt cX5_isSoughtAt 5 (some .boolean)) { frames := k, cells := mc, slots := ms, locals := 32 * k } mc ms 3 := cwV 3 hg (gw_V wd_ml_X5_198 wd_im_X5_isSoughtAt wd_se_X5_isSoughtAt wd_in_X5 wd_co_X5_isSoughtAt) rfl rfl rfl (by decide +kernel) hR
theorem wd_ml_X5_201 : Cond.methodLink RX5 201 yX3_append ∈ GW := gw_at 476 (by decide +kernel) (by decide +kernel)
theorem wd_im_X3_append : Cond.instanceMethod yX3_append ∈ GW := gw_at 477 (by decide +kernel) (by decide +kernel)
theorem wd_se_X3_append : Cond.selects RX3 yX3_append yX3_append ∈ GW := gw_at 478 (by decide +kernel) (by decide +kernel)
theorem cv_X5_201 {k mc ms : Nat} (hg : ∀ w ∈ GW, w.before args s = true) (hR : k + 1 ≤ R.frames ∧ 8 + (2 + 11) + 32 * k ≤ R.locals) : CallW R s args RX5 RX3 201 yX3_append cX3_append 2 none (ww yX3_append cX3_append 2 none) { frames := k, cells := mc, slots := ms, locals := 32 * k } mc ms 1 := cwV 1 hg (gw_V wd_ml_X5_201 wd_im_X3_append wd_se_X3_append wd_in_X3 wd_co_X3_append) rfl rfl rfl (by decide +kernel) hR
theorem wd_ml_X5_204 : Cond.methodLink RX5 204 yX1_stepTo ∈ GW := gw_at 475 (by decide +kernel) (by decide +kernel)
theorem wd_im_X1_stepTo : Cond.instanceMethod yX1_stepTo ∈ GW := gw_at 308 (by decide +kernel) (by decide +kernel)
theorem wd_se_X1_stepTo : Cond.selects RX1 yX1_stepTo yX1_stepTo ∈ GW := gw_at 309 (by decide +kernel) (by decide +kernel)
theorem cv_X5_204 {k mc ms : Nat} (hg : ∀ w ∈ GW, w.before args s = true) (hR : k + 1 ≤ R.frames ∧ 8 + (2 + 11) + 32 * k ≤ R.locals) : CallW R s args RX5 RX1 204 yX1_stepTo cX1_stepTo 2 (some .int) (ww yX1_stepTo cX1_stepTo 2 (some .int)) { frames := k, cells := mc, slots := ms, locals := 32 * k } mc ms 1 := cwV 1 hg (gw_V wd_ml_X5_204 wd_im_X1_stepTo wd_se_X1_stepTo wd_in_X1 wd_co_X1_stepTo) rfl rfl rfl (by decide +kernel) hR
theorem wd_ml_X0_24 : Cond.methodLink RX0 24 yX1_stepTo ∈ GW := gw_at 307 (by decide +kernel) (by decide +kernel)
theorem cv_X0_24 {k mc ms : Nat} (hg : ∀ w ∈ GW, w.before args s = true) (hR : k + 1 ≤ R.frames ∧ 8 + (2 + 11) + 32 * k ≤ R.locals) : CallW R s args RX0 RX1 24 yX1_stepTo cX1_stepTo 2 (some .int) (ww yX1_stepTo cX1_stepTo 2 (some .int)) { frames := k, cells := mc, slots := ms, locals := 32 * k } mc ms 1 := cwV 1 hg (gw_V wd_ml_X0_24 wd_im_X1_stepTo wd_se_X1_stepTo wd_in_X1 wd_co_X1_stepTo) rfl rfl rfl (by decide +kernel) hR
theorem wd_ml_X0_28 : Cond.methodLink RX0 28 yJ6_signum_0f7a4 ∈ GW := gw_at 311 (by decide +kernel) (by decide +kernel)
theorem wd_st_J6_signum_0f7a4 : Cond.static yJ6_signum_0f7a4 ∈ GW := gw_at 312 (by decide +kernel) (by decide +kernel)
theorem cv_X0_28 {k mc ms : Nat} (hg : ∀ w ∈ GW, w.before args s = true) (hR : k + 1 ≤ R.frames ∧ 8 + (1 + 11) + 32 * k ≤ R.locals) : CallB R s args RX0 28 yJ6_signum_0f7a4 cJ6_signum_0f7a4 1 (some .int) (ww yJ6_signum_0f7a4 cJ6_signum_0f7a4 1 (some .int)) { frames := k, cells := mc, slots := ms, locals := 32 * k } mc ms 1 ∧ (Cond.static yJ6_signum_0f7a4).before args s = true := va_cwS 1 hg (gw_S wd_ml_X0_28 wd_st_J6_signum_0f7a4 wd_in_J6 wd_co_J6_signum_0f7a4) rfl rfl rfl (by decide +kernel) hR
theorem wd_ml_X0_36 : Cond.methodLink RX0 36 yX0_countIn ∈ GW := gw_at 326 (by decide +kernel) (by decide +kernel)
theorem cv_X0_36 {k mc ms : Nat} (hg : ∀ w ∈ GW, w.before args s = true) (hR : k + 1 ≤ R.frames ∧ 8 + (3 + 11) + 32 * k ≤ R.locals) : CallB R s args RX0 36 yX0_countIn cX0_countIn 3 (some .int) (ww yX0_countIn cX0_countIn 3 (some .int)) { frames := k, cells := mc, slots := ms, locals := 32 * k } mc ms 2 ∧ (Cond.static yX0_countIn).before args s = true := va_cwS 2 hg (gw_S wd_ml_X0_36 wd_st_X0_countIn wd_in_X0 wd_co_X0_countIn) rfl rfl rfl (by decide +kernel) hR
theorem wd_ml_X0_41 : Cond.methodLink RX0 41 yX0_valueIn ∈ GW := gw_at 327 (by decide +kernel) (by decide +kernel)
theorem cv_X0_41 {k mc ms : Nat} (hg : ∀ w ∈ GW, w.before args s = true) (hR : k + 1 ≤ R.frames ∧ 8 + (3 + 11) + 32 * k ≤ R.locals) : CallB R s args RX0 41 yX0_valueIn cX0_valueIn 3 (some .int) (ww yX0_valueIn cX0_valueIn 3 (some .int)) { frames := k, cells := mc, slots := ms, locals := 32 * k } mc ms 3 ∧ (Cond.static yX0_valueIn).before args s = true := va_cwS 3 hg (gw_S wd_ml_X0_41 wd_st_X0_valueIn wd_in_X0 wd_co_X0_valueIn) rfl rfl rfl (by decide +kernel) hR
theorem wd_ml_X0_45 : Cond.methodLink RX0 45 yX0_cameBefore ∈ GW := gw_at 380 (by decide +kernel) (by decide +kernel)
theorem wd_im_X0_cameBefore : Cond.instanceMethod yX0_cameBefore ∈ GW := gw_at 382 (by decide +kernel) (by decide +kernel)
theorem wd_se_X0_cameBefore : Cond.selects RX0 yX0_cameBefore yX0_cameBefore ∈ GW := gw_at 6 (by decide +kernel) (by decide +kernel)
theorem cv_X0_45 {k mc ms : Nat} (hg : ∀ w ∈ GW, w.before args s = true) (hR : k + 1 ≤ R.frames ∧ 8 + (4 + 11) + 32 * k ≤ R.locals) : CallW R s args RX0 RX0 45 yX0_cameBefore cX0_cameBefore 4 (some .boolean) (ww yX0_cameBefore cX0_cameBefore 4 (some .boolean)) { frames := k, cells := mc, slots := ms, locals := 32 * k } mc ms 2 := cwV 2 hg (gw_V wd_ml_X0_45 wd_im_X0_cameBefore wd_se_X0_cameBefore wd_in_X0 wd_co_X0_cameBefore) rfl rfl rfl (by decide +kernel) hR
theorem wd_ml_X0_49 : Cond.methodLink RX0 49 yX0_sameRun ∈ GW := gw_at 340 (by decide +kernel) (by decide +kernel)
theorem wd_im_X0_sameRun : Cond.instanceMethod yX0_sameRun ∈ GW := gw_at 342 (by decide +kernel) (by decide +kernel)
theorem wd_se_X0_sameRun : Cond.selects RX0 yX0_sameRun yX0_sameRun ∈ GW := gw_at 2 (by decide +kernel) (by decide +kernel)
theorem cv_X0_49 {k mc ms : Nat} (hg : ∀ w ∈ GW, w.before args s = true) (hR : k + 1 ≤ R.frames ∧ 8 + (4 + 11) + 32 * k ≤ R.locals) : CallW R s args RX0 RX0 49 yX0_sameRun cX0_sameRun 4 (some .int) (ww yX0_sameRun cX0_sameRun 4 (some .int)) { frames := k, cells := mc, slots := ms, locals := 32 * k } mc ms 2 := cwV 2 hg (gw_V wd_ml_X0_49 wd_im_X0_sameRun wd_se_X0_sameRun wd_in_X0 wd_co_X0_sameRun) rfl rfl rfl (by decide +kernel) hR
theorem wd_ml_X2_30 : Cond.methodLink RX2 30 yX2_weighFrom ∈ GW := gw_at 526 (by decide +kernel) (by decide +kernel)
theorem wd_im_X2_weighFrom : Cond.instanceMethod yX2_weighFrom ∈ GW := gw_at 528 (by decide +kernel) (by decide +kernel)
theorem wd_se_X2_weighFrom : Cond.selects RX2 yX2_weighFrom yX2_weighFrom ∈ GW := gw_at 13 (by decide +kernel) (by decide +kernel)
theorem cv_X2_30 {k mc ms : Nat} (hg : ∀ w ∈ GW, w.before args s = true) (hR : k + 1 ≤ R.frames ∧ 8 + (10 + 11) + 32 * k ≤ R.locals) : CallW R s args RX2 RX2 30 yX2_weighFrom cX2_weighFrom 10 none (ww yX2_weighFrom cX2_weighFrom 10 none) { frames := k, cells := mc, slots := ms, locals := 32 * k } mc ms 4 := cwV 4 hg (gw_V wd_ml_X2_30 wd_im_X2_weighFrom wd_se_X2_weighFrom wd_in_X2 wd_co_X2_weighFrom) rfl rfl rfl (by decide +kernel) hR
theorem wd_ml_X2_41 : Cond.methodLink RX2 41 yJ9_max_7cf53 ∈ GW := gw_at 530 (by decide +kernel) (by decide +kernel)
theorem wd_st_J9_max_7cf53 : Cond.static yJ9_max_7cf53 ∈ GW := gw_at 531 (by decide +kernel) (by decide +kernel)
theorem cv_X2_41 {k mc ms : Nat} (hg : ∀ w ∈ GW, w.before args s = true) (hR : k + 1 ≤ R.frames ∧ 8 + (2 + 11) + 32 * k ≤ R.locals) : CallB R s args RX2 41 yJ9_max_7cf53 cJ9_max_7cf53 2 (some .int) (ww yJ9_max_7cf53 cJ9_max_7cf53 2 (some .int)) { frames := k, cells := mc, slots := ms, locals := 32 * k } mc ms 2 ∧ (Cond.static yJ9_max_7cf53).before args s = true := va_cwS 2 hg (gw_S wd_ml_X2_41 wd_st_J9_max_7cf53 wd_in_J9 wd_co_J9_max_7cf53) rfl rfl rfl (by decide +kernel) hR
theorem wd_ml_X2_47 : Cond.methodLink RX2 47 yJ9_min_7cf53 ∈ GW := gw_at 533 (by decide +kernel) (by decide +kernel)
theorem wd_st_J9_min_7cf53 : Cond.static yJ9_min_7cf53 ∈ GW := gw_at 534 (by decide +kernel) (by decide +kernel)
theorem cv_X2_47 {k mc ms : Nat} (hg : ∀ w ∈ GW, w.before args s = true) (hR : k + 1 ≤ R.frames ∧ 8 + (2 + 11) + 32 * k ≤ R.locals) : CallB R s args RX2 47 yJ9_min_7cf53 cJ9_min_7cf53 2 (some .int) (ww yJ9_min_7cf53 cJ9_min_7cf53 2 (some .int)) { frames := k, cells := mc, slots := ms, locals := 32 * k } mc ms 2 ∧ (Cond.static yJ9_min_7cf53).before args s = true := va_cwS 2 hg (gw_S wd_ml_X2_47 wd_st_J9_min_7cf53 wd_in_J9 wd_co_J9_min_7cf53) rfl rfl rfl (by decide +kernel) hR
theorem wd_ml_X2_50 : Cond.methodLink RX2 50 yX2_isBetter ∈ GW := gw_at 536 (by decide +kernel) (by decide +kernel)
theorem wd_im_X2_isBetter : Cond.instanceMethod yX2_isBetter ∈ GW := gw_at 538 (by decide +kernel) (by decide +kernel)
theorem wd_se_X2_isBetter : Cond.selects RX2 yX2_isBetter yX2_isBetter ∈ GW := gw_at 14 (by decide +kernel) (by decide +kernel)
theorem cv_X2_50 {k mc ms : Nat} (hg : ∀ w ∈ GW, w.before args s = true) (hR : k + 1 ≤ R.frames ∧ 8 + (4 + 11) + 32 * k ≤ R.locals) : CallW R s args RX2 RX2 50 yX2_isBetter cX2_isBetter 4 (some .boolean) (ww yX2_isBetter cX2_isBetter 4 (some .boolean)) { frames := k, cells := mc, slots := ms, locals := 32 * k } mc ms 3 := cwV 3 hg (gw_V wd_ml_X2_50 wd_im_X2_isBetter wd_se_X2_isBetter wd_in_X2 wd_co_X2_isBetter) rfl rfl rfl (by decide +kernel) hR
theorem wd_ml_X4_18 : Cond.methodLink RX4 18 yX4_countByLength ∈ GW := gw_at 332 (by decide +kernel) (by decide +kernel)
theorem wd_im_X4_countByLength : Cond.instanceMethod yX4_countByLength ∈ GW := gw_at 334 (by decide +kernel) (by decide +kernel)
theorem wd_se_X4_countByLength : Cond.selects RX4 yX4_countByLength yX4_countByLength ∈ GW := gw_at 1 (by decide +kernel) (by decide +kernel)
theorem cv_X4_18 {k mc ms : Nat} (hg : ∀ w ∈ GW, w.before args s = true) (hR : k + 1 ≤ R.frames ∧ 8 + (6 + 11) + 32 * k ≤ R.locals) : CallW R s args RX4 RX4 18 yX4_countByLength cX4_countByLength 6 none (ww yX4_countByLength cX4_countByLength 6 none) { frames := k, cells := mc, slots := ms, locals := 32 * k } mc ms 2 := cwV 2 hg (gw_V wd_ml_X4_18 wd_im_X4_countByLength wd_se_X4_countByLength wd_in_X4 wd_co_X4_countByLength) rfl rfl rfl (by decide +kernel) hR
theorem wd_ml_X4_22 : Cond.methodLink RX4 22 yX4_giveSlotsLongestFirst ∈ GW := gw_at 344 (by decide +kernel) (by decide +kernel)
theorem wd_im_X4_giveSlotsLongestFirst : Cond.instanceMethod yX4_giveSlotsLongestFirst ∈ GW := gw_at 346 (by decide +kernel) (by decide +kernel)
theorem wd_se_X4_giveSlotsLongestFirst : Cond.selects RX4 yX4_giveSlotsLongestFirst yX4_giveSlotsLongestFirst ∈ GW := gw_at 3 (by decide +kernel) (by decide +kernel)
theorem cv_X4_22 {k mc ms : Nat} (hg : ∀ w ∈ GW, w.before args s = true) (hR : k + 1 ≤ R.frames ∧ 8 + (3 + 11) + 32 * k ≤ R.locals) : CallW R s args RX4 RX4 22 yX4_giveSlotsLongestFirst cX4_giveSlotsLongestFirst 3 none (ww yX4_giveSlotsLongestFirst cX4_giveSlotsLongestFirst 3 none) { frames := k, cells := mc, slots := ms, locals := 32 * k } mc ms 0 := cwV 0 hg (gw_V wd_ml_X4_22 wd_im_X4_giveSlotsLongestFirst wd_se_X4_giveSlotsLongestFirst wd_in_X4 wd_co_X4_giveSlotsLongestFirst) rfl rfl rfl (by decide +kernel) hR
theorem wd_ml_X4_25 : Cond.methodLink RX4 25 yX4_putInSlots ∈ GW := gw_at 348 (by decide +kernel) (by decide +kernel)
theorem wd_im_X4_putInSlots : Cond.instanceMethod yX4_putInSlots ∈ GW := gw_at 350 (by decide +kernel) (by decide +kernel)
theorem wd_se_X4_putInSlots : Cond.selects RX4 yX4_putInSlots yX4_putInSlots ∈ GW := gw_at 4 (by decide +kernel) (by decide +kernel)
theorem cv_X4_25 {k mc ms : Nat} (hg : ∀ w ∈ GW, w.before args s = true) (hR : k + 1 ≤ R.frames ∧ 8 + (6 + 11) + 32 * k ≤ R.locals) : CallW R s args RX4 RX4 25 yX4_putInSlots cX4_putInSlots 6 none (ww yX4_putInSlots cX4_putInSlots 6 none) { frames := k, cells := mc, slots := ms, locals := 32 * k } mc ms 2 := cwV 2 hg (gw_V wd_ml_X4_25 wd_im_X4_putInSlots wd_se_X4_putInSlots wd_in_X4 wd_co_X4_putInSlots) rfl rfl rfl (by decide +kernel) hR
theorem wd_ml_X4_34 : Cond.methodLink RX4 34 yX0_repeatLength ∈ GW := gw_at 336 (by decide +kernel) (by decide +kernel)
theorem wd_im_X0_repeatLength : Cond.instanceMethod yX0_repeatLength ∈ GW := gw_at 337 (by decide +kernel) (by decide +kernel)
theorem wd_se_X0_repeatLength : Cond.selects RX0 yX0_repeatLength yX0_repeatLength ∈ GW := gw_at 338 (by decide +kernel) (by decide +kernel)
theorem cv_X4_34 {k mc ms : Nat} (hg : ∀ w ∈ GW, w.before args s = true) (hR : k + 1 ≤ R.frames ∧ 8 + (4 + 11) + 32 * k ≤ R.locals) : CallW R s args RX4 RX0 34 yX0_repeatLength cX0_repeatLength 4 (some .int) (ww yX0_repeatLength cX0_repeatLength 4 (some .int)) { frames := k, cells := mc, slots := ms, locals := 32 * k } mc ms 2 := cwV 2 hg (gw_V wd_ml_X4_34 wd_im_X0_repeatLength wd_se_X0_repeatLength wd_in_X0 wd_co_X0_repeatLength) rfl rfl rfl (by decide +kernel) hR
theorem wd_ml_X4_39 : Cond.methodLink RX4 39 yX4_put ∈ GW := gw_at 352 (by decide +kernel) (by decide +kernel)
theorem wd_im_X4_put : Cond.instanceMethod yX4_put ∈ GW := gw_at 354 (by decide +kernel) (by decide +kernel)
theorem wd_se_X4_put : Cond.selects RX4 yX4_put yX4_put ∈ GW := gw_at 5 (by decide +kernel) (by decide +kernel)
theorem cv_X4_39 {k mc ms : Nat} (hg : ∀ w ∈ GW, w.before args s = true) (hR : k + 1 ≤ R.frames ∧ 8 + (5 + 11) + 32 * k ≤ R.locals) : CallW R s args RX4 RX4 39 yX4_put cX4_put 5 none (ww yX4_put cX4_put 5 none) { frames := k, cells := mc, slots := ms, locals := 32 * k } mc ms 4 := cwV 4 hg (gw_V wd_ml_X4_39 wd_im_X4_put wd_se_X4_put wd_in_X4 wd_co_X4_put) rfl rfl rfl (by decide +kernel) hR
theorem wd_ml_L_7 : Cond.methodLink RL 7 yX5_note ∈ GW := gw_at 179 (by decide +kernel) (by decide +kernel)
theorem wd_im_X5_note : Cond.instanceMethod yX5_note ∈ GW := gw_at 180 (by decide +kernel) (by decide +kernel)
theorem wd_se_X5_note : Cond.selects RX5 yX5_note yX5_note ∈ GW := gw_at 181 (by decide +kernel) (by decide +kernel)
theorem cv_L_7 {k mc ms : Nat} (hg : ∀ w ∈ GW, w.before args s = true) (hR : k + 1 ≤ R.frames ∧ 8 + (3 + 11) + 32 * k ≤ R.locals) : CallW R s args RL RX5 7 yX5_note cX5_note 3 (some .int) (ww yX5_note cX5_note 3 (some .int)) { frames := k, cells := mc, slots := ms, locals := 32 * k } mc ms 2 := cwV 2 hg (gw_V wd_ml_L_7 wd_im_X5_note wd_se_X5_note wd_in_X5 wd_co_X5_note) rfl rfl rfl (by decide +kernel) hR
theorem wd_ml_L_17 : Cond.methodLink RL 17 yX5_drop ∈ GW := gw_at 277 (by decide +kernel) (by decide +kernel)
theorem wd_im_X5_drop : Cond.instanceMethod yX5_drop ∈ GW := gw_at 278 (by decide +kernel) (by decide +kernel)
theorem wd_se_X5_drop : Cond.selects RX5 yX5_drop yX5_drop ∈ GW := gw_at 279 (by decide +kernel) (by decide +kernel)
theorem cv_L_17 {k mc ms : Nat} (hg : ∀ w ∈ GW, w.before args s = true) (hR : k + 1 ≤ R.frames ∧ 8 + (2 + 11) + 32 * k ≤ R.locals) : CallW R s args RL RX5 17 yX5_drop cX5_drop 2 (some .int) (ww yX5_drop cX5_drop 2 (some .int)) { frames := k, cells := mc, slots := ms, locals := 32 * k } mc ms 1 := cwV 1 hg (gw_V wd_ml_L_17 wd_im_X5_drop wd_se_X5_drop wd_in_X5 wd_co_X5_drop) rfl rfl rfl (by decide +kernel) hR
theorem wd_ml_L_21 : Cond.methodLink RL 21 yX5_items ∈ GW := gw_at 285 (by decide +kernel) (by decide +kernel)
theorem wd_im_X5_items : Cond.instanceMethod yX5_items ∈ GW := gw_at 286 (by decide +kernel) (by decide +kernel)
theorem wd_se_X5_items : Cond.selects RX5 yX5_items yX5_items ∈ GW := gw_at 287 (by decide +kernel) (by decide +kernel)
theorem cv_L_21 {k mc ms : Nat} (hg : ∀ w ∈ GW, w.before args s = true) (hR : k + 1 ≤ R.frames ∧ 8 + (2 + 11) + 32 * k ≤ R.locals) : CallW R s args RL RX5 21 yX5_items cX5_items 2 (some .int) (ww yX5_items cX5_items 2 (some .int)) { frames := k, cells := mc, slots := ms, locals := 32 * k } mc ms 1 := cwV 1 hg (gw_V wd_ml_L_21 wd_im_X5_items wd_se_X5_items wd_in_X5 wd_co_X5_items) rfl rfl rfl (by decide +kernel) hR
theorem wd_ml_L_24 : Cond.methodLink RL 24 yX5_item ∈ GW := gw_at 299 (by decide +kernel) (by decide +kernel)
theorem wd_im_X5_item : Cond.instanceMethod yX5_item ∈ GW := gw_at 300 (by decide +kernel) (by decide +kernel)
theorem wd_se_X5_item : Cond.selects RX5 yX5_item yX5_item ∈ GW := gw_at 301 (by decide +kernel) (by decide +kernel)
theorem cv_L_24 {k mc ms : Nat} (hg : ∀ w ∈ GW, w.before args s = true) (hR : k + 1 ≤ R.frames ∧ 8 + (3 + 11) + 32 * k ≤ R.locals) : CallW R s args RL RX5 24 yX5_item cX5_item 3 (some .int) (ww yX5_item cX5_item 3 (some .int)) { frames := k, cells := mc, slots := ms, locals := 32 * k } mc ms 2 := cwV 2 hg (gw_V wd_ml_L_24 wd_im_X5_item wd_se_X5_item wd_in_X5 wd_co_X5_item) rfl rfl rfl (by decide +kernel) hR
theorem wd_ml_L_27 : Cond.methodLink RL 27 yX5_repeats ∈ GW := gw_at 317 (by decide +kernel) (by decide +kernel)
theorem wd_im_X5_repeats : Cond.instanceMethod yX5_repeats ∈ GW := gw_at 318 (by decide +kernel) (by decide +kernel)
theorem wd_se_X5_repeats : Cond.selects RX5 yX5_repeats yX5_repeats ∈ GW := gw_at 319 (by decide +kernel) (by decide +kernel)
theorem cv_L_27 {k mc ms : Nat} (hg : ∀ w ∈ GW, w.before args s = true) (hR : k + 1 ≤ R.frames ∧ 8 + (3 + 11) + 32 * k ≤ R.locals) : CallW R s args RL RX5 27 yX5_repeats cX5_repeats 3 (some .int) (ww yX5_repeats cX5_repeats 3 (some .int)) { frames := k, cells := mc, slots := ms, locals := 32 * k } mc ms 2 := cwV 2 hg (gw_V wd_ml_L_27 wd_im_X5_repeats wd_se_X5_repeats wd_in_X5 wd_co_X5_repeats) rfl rfl rfl (by decide +kernel) hR
theorem wd_ml_L_30 : Cond.methodLink RL 30 yX5_repeat ∈ GW := gw_at 359 (by decide +kernel) (by decide +kernel)
theorem wd_im_X5_repeat : Cond.instanceMethod yX5_repeat ∈ GW := gw_at 360 (by decide +kernel) (by decide +kernel)
theorem wd_se_X5_repeat : Cond.selects RX5 yX5_repeat yX5_repeat ∈ GW := gw_at 361 (by decide +kernel) (by decide +kernel)
theorem cv_L_30 {k mc ms : Nat} (hg : ∀ w ∈ GW, w.before args s = true) (hR : k + 1 ≤ R.frames ∧ 8 + (3 + 11) + 32 * k ≤ R.locals) : CallW R s args RL RX5 30 yX5_repeat cX5_repeat 3 (some .int) (ww yX5_repeat cX5_repeat 3 (some .int)) { frames := k, cells := mc, slots := ms, locals := 32 * k } mc ms 2 := cwV 2 hg (gw_V wd_ml_L_30 wd_im_X5_repeat wd_se_X5_repeat wd_in_X5 wd_co_X5_repeat) rfl rfl rfl (by decide +kernel) hR
theorem wd_ml_L_33 : Cond.methodLink RL 33 yX5_passages ∈ GW := gw_at 371 (by decide +kernel) (by decide +kernel)
theorem wd_im_X5_passages : Cond.instanceMethod yX5_passages ∈ GW := gw_at 372 (by decide +kernel) (by decide +kernel)
theorem wd_se_X5_passages : Cond.selects RX5 yX5_passages yX5_passages ∈ GW := gw_at 373 (by decide +kernel) (by decide +kernel)
theorem cv_L_33 {k mc ms : Nat} (hg : ∀ w ∈ GW, w.before args s = true) (hR : k + 1 ≤ R.frames ∧ 8 + (3 + 11) + 32 * k ≤ R.locals) : CallW R s args RL RX5 33 yX5_passages cX5_passages 3 (some .int) (ww yX5_passages cX5_passages 3 (some .int)) { frames := k, cells := mc, slots := ms, locals := 32 * k } mc ms 2 := cwV 2 hg (gw_V wd_ml_L_33 wd_im_X5_passages wd_se_X5_passages wd_in_X5 wd_co_X5_passages) rfl rfl rfl (by decide +kernel) hR
theorem wd_ml_L_36 : Cond.methodLink RL 36 yX5_period ∈ GW := gw_at 387 (by decide +kernel) (by decide +kernel)
theorem wd_im_X5_period : Cond.instanceMethod yX5_period ∈ GW := gw_at 388 (by decide +kernel) (by decide +kernel)
theorem wd_se_X5_period : Cond.selects RX5 yX5_period yX5_period ∈ GW := gw_at 389 (by decide +kernel) (by decide +kernel)
theorem cv_L_36 {k mc ms : Nat} (hg : ∀ w ∈ GW, w.before args s = true) (hR : k + 1 ≤ R.frames ∧ 8 + (2 + 11) + 32 * k ≤ R.locals) : CallW R s args RL RX5 36 yX5_period cX5_period 2 (some .int) (ww yX5_period cX5_period 2 (some .int)) { frames := k, cells := mc, slots := ms, locals := 32 * k } mc ms 1 := cwV 1 hg (gw_V wd_ml_L_36 wd_im_X5_period wd_se_X5_period wd_in_X5 wd_co_X5_period) rfl rfl rfl (by decide +kernel) hR
theorem wd_ml_L_39 : Cond.methodLink RL 39 yX5_alike ∈ GW := gw_at 399 (by decide +kernel) (by decide +kernel)
theorem wd_im_X5_alike : Cond.instanceMethod yX5_alike ∈ GW := gw_at 400 (by decide +kernel) (by decide +kernel)
theorem wd_se_X5_alike : Cond.selects RX5 yX5_alike yX5_alike ∈ GW := gw_at 401 (by decide +kernel) (by decide +kernel)
theorem cv_L_39 {k mc ms : Nat} (hg : ∀ w ∈ GW, w.before args s = true) (hR : k + 1 ≤ R.frames ∧ 8 + (6 + 11) + 32 * k ≤ R.locals) : CallW R s args RL RX5 39 yX5_alike cX5_alike 6 (some .int) (ww yX5_alike cX5_alike 6 (some .int)) { frames := k, cells := mc, slots := ms, locals := 32 * k } mc ms 4 := cwV 4 hg (gw_V wd_ml_L_39 wd_im_X5_alike wd_se_X5_alike wd_in_X5 wd_co_X5_alike) rfl rfl rfl (by decide +kernel) hR
theorem wd_ml_L_45 : Cond.methodLink RL 45 yX5_motive ∈ GW := gw_at 427 (by decide +kernel) (by decide +kernel)
theorem wd_im_X5_motive : Cond.instanceMethod yX5_motive ∈ GW := gw_at 428 (by decide +kernel) (by decide +kernel)
theorem wd_se_X5_motive : Cond.selects RX5 yX5_motive yX5_motive ∈ GW := gw_at 429 (by decide +kernel) (by decide +kernel)
theorem cv_L_45 {k mc ms : Nat} (hg : ∀ w ∈ GW, w.before args s = true) (hR : k + 1 ≤ R.frames ∧ 8 + (4 + 11) + 32 * k ≤ R.locals) : CallW R s args RL RX5 45 yX5_motive cX5_motive 4 (some .int) (ww yX5_motive cX5_motive 4 (some .int)) { frames := k, cells := mc, slots := ms, locals := 32 * k } mc ms 2 := cwV 2 hg (gw_V wd_ml_L_45 wd_im_X5_motive wd_se_X5_motive wd_in_X5 wd_co_X5_motive) rfl rfl rfl (by decide +kernel) hR
theorem wd_ml_L_48 : Cond.methodLink RL 48 yX5_form ∈ GW := gw_at 435 (by decide +kernel) (by decide +kernel)
theorem wd_im_X5_form : Cond.instanceMethod yX5_form ∈ GW := gw_at 436 (by decide +kernel) (by decide +kernel)
theorem wd_se_X5_form : Cond.selects RX5 yX5_form yX5_form ∈ GW := gw_at 437 (by decide +kernel) (by decide +kernel)
theorem cv_L_48 {k mc ms : Nat} (hg : ∀ w ∈ GW, w.before args s = true) (hR : k + 1 ≤ R.frames ∧ 8 + (4 + 11) + 32 * k ≤ R.locals) : CallW R s args RL RX5 48 yX5_form cX5_form 4 (some .int) (ww yX5_form cX5_form 4 (some .int)) { frames := k, cells := mc, slots := ms, locals := 32 * k } mc ms 3 := cwV 3 hg (gw_V wd_ml_L_48 wd_im_X5_form wd_se_X5_form wd_in_X5 wd_co_X5_form) rfl rfl rfl (by decide +kernel) hR
theorem wd_ml_L_52 : Cond.methodLink RL 52 yX5_find ∈ GW := gw_at 458 (by decide +kernel) (by decide +kernel)
theorem wd_im_X5_find : Cond.instanceMethod yX5_find ∈ GW := gw_at 459 (by decide +kernel) (by decide +kernel)
theorem wd_se_X5_find : Cond.selects RX5 yX5_find yX5_find ∈ GW := gw_at 460 (by decide +kernel) (by decide +kernel)
theorem cv_L_52 {k mc ms : Nat} (hg : ∀ w ∈ GW, w.before args s = true) (hR : k + 1 ≤ R.frames ∧ 8 + (5 + 11) + 32 * k ≤ R.locals) : CallW R s args RL RX5 52 yX5_find cX5_find 5 (some .int) (ww yX5_find cX5_find 5 (some .int)) { frames := k, cells := mc, slots := ms, locals := 32 * k } mc ms 3 := cwV 3 hg (gw_V wd_ml_L_52 wd_im_X5_find wd_se_X5_find wd_in_X5 wd_co_X5_find) rfl rfl rfl (by decide +kernel) hR
theorem wd_ml_L_55 : Cond.methodLink RL 55 yX5_answer ∈ GW := gw_at 483 (by decide +kernel) (by decide +kernel)
theorem wd_im_X5_answer : Cond.instanceMethod yX5_answer ∈ GW := gw_at 484 (by decide +kernel) (by decide +kernel)
theorem wd_se_X5_answer : Cond.selects RX5 yX5_answer yX5_answer ∈ GW := gw_at 485 (by decide +kernel) (by decide +kernel)
theorem cv_L_55 {k mc ms : Nat} (hg : ∀ w ∈ GW, w.before args s = true) (hR : k + 1 ≤ R.frames ∧ 8 + (4 + 11) + 32 * k ≤ R.locals) : CallW R s args RL RX5 55 yX5_answer cX5_answer 4 (some .int) (ww yX5_answer cX5_answer 4 (some .int)) { frames := k, cells := mc, slots := ms, locals := 32 * k } mc ms 3 := cwV 3 hg (gw_V wd_ml_L_55 wd_im_X5_answer wd_se_X5_answer wd_in_X5 wd_co_X5_answer) rfl rfl rfl (by decide +kernel) hR
theorem wd_ml_L_58 : Cond.methodLink RL 58 yX5_entries ∈ GW := gw_at 501 (by decide +kernel) (by decide +kernel)
theorem wd_im_X5_entries : Cond.instanceMethod yX5_entries ∈ GW := gw_at 502 (by decide +kernel) (by decide +kernel)
theorem wd_se_X5_entries : Cond.selects RX5 yX5_entries yX5_entries ∈ GW := gw_at 503 (by decide +kernel) (by decide +kernel)
theorem cv_L_58 {k mc ms : Nat} (hg : ∀ w ∈ GW, w.before args s = true) (hR : k + 1 ≤ R.frames ∧ 8 + (4 + 11) + 32 * k ≤ R.locals) : CallW R s args RL RX5 58 yX5_entries cX5_entries 4 (some .int) (ww yX5_entries cX5_entries 4 (some .int)) { frames := k, cells := mc, slots := ms, locals := 32 * k } mc ms 2 := cwV 2 hg (gw_V wd_ml_L_58 wd_im_X5_entries wd_se_X5_entries wd_in_X5 wd_co_X5_entries) rfl rfl rfl (by decide +kernel) hR
theorem wd_ml_L_61 : Cond.methodLink RL 61 yX5_found ∈ GW := gw_at 509 (by decide +kernel) (by decide +kernel)
theorem wd_im_X5_found : Cond.instanceMethod yX5_found ∈ GW := gw_at 510 (by decide +kernel) (by decide +kernel)
theorem wd_se_X5_found : Cond.selects RX5 yX5_found yX5_found ∈ GW := gw_at 511 (by decide +kernel) (by decide +kernel)
theorem cv_L_61 {k mc ms : Nat} (hg : ∀ w ∈ GW, w.before args s = true) (hR : k + 1 ≤ R.frames ∧ 8 + (2 + 11) + 32 * k ≤ R.locals) : CallW R s args RL RX5 61 yX5_found cX5_found 2 (some .int) (ww yX5_found cX5_found 2 (some .int)) { frames := k, cells := mc, slots := ms, locals := 32 * k } mc ms 1 := cwV 1 hg (gw_V wd_ml_L_61 wd_im_X5_found wd_se_X5_found wd_in_X5 wd_co_X5_found) rfl rfl rfl (by decide +kernel) hR
theorem wd_ml_L_64 : Cond.methodLink RL 64 yX5_sections ∈ GW := gw_at 517 (by decide +kernel) (by decide +kernel)
theorem wd_im_X5_sections : Cond.instanceMethod yX5_sections ∈ GW := gw_at 518 (by decide +kernel) (by decide +kernel)
theorem wd_se_X5_sections : Cond.selects RX5 yX5_sections yX5_sections ∈ GW := gw_at 519 (by decide +kernel) (by decide +kernel)
theorem cv_L_64 {k mc ms : Nat} (hg : ∀ w ∈ GW, w.before args s = true) (hR : k + 1 ≤ R.frames ∧ 8 + (3 + 11) + 32 * k ≤ R.locals) : CallW R s args RL RX5 64 yX5_sections cX5_sections 3 (some .int) (ww yX5_sections cX5_sections 3 (some .int)) { frames := k, cells := mc, slots := ms, locals := 32 * k } mc ms 2 := cwV 2 hg (gw_V wd_ml_L_64 wd_im_X5_sections wd_se_X5_sections wd_in_X5 wd_co_X5_sections) rfl rfl rfl (by decide +kernel) hR
theorem wd_ml_L_67 : Cond.methodLink RL 67 yX5_section ∈ GW := gw_at 543 (by decide +kernel) (by decide +kernel)
theorem wd_im_X5_section : Cond.instanceMethod yX5_section ∈ GW := gw_at 544 (by decide +kernel) (by decide +kernel)
theorem wd_se_X5_section : Cond.selects RX5 yX5_section yX5_section ∈ GW := gw_at 545 (by decide +kernel) (by decide +kernel)
theorem cv_L_67 {k mc ms : Nat} (hg : ∀ w ∈ GW, w.before args s = true) (hR : k + 1 ≤ R.frames ∧ 8 + (2 + 11) + 32 * k ≤ R.locals) : CallW R s args RL RX5 67 yX5_section cX5_section 2 (some .int) (ww yX5_section cX5_section 2 (some .int)) { frames := k, cells := mc, slots := ms, locals := 32 * k } mc ms 1 := cwV 1 hg (gw_V wd_ml_L_67 wd_im_X5_section wd_se_X5_section wd_in_X5 wd_co_X5_section) rfl rfl rfl (by decide +kernel) hR
theorem wd_ml_L_70 : Cond.methodLink RL 70 yX5_of ∈ GW := gw_at 550 (by decide +kernel) (by decide +kernel)
theorem wd_im_X5_of : Cond.instanceMethod yX5_of ∈ GW := gw_at 551 (by decide +kernel) (by decide +kernel)
theorem wd_se_X5_of : Cond.selects RX5 yX5_of yX5_of ∈ GW := gw_at 552 (by decide +kernel) (by decide +kernel)
theorem cv_L_70 {k mc ms : Nat} (hg : ∀ w ∈ GW, w.before args s = true) (hR : k + 1 ≤ R.frames ∧ 8 + (2 + 11) + 32 * k ≤ R.locals) : CallW R s args RL RX5 70 yX5_of cX5_of 2 (some .int) (ww yX5_of cX5_of 2 (some .int)) { frames := k, cells := mc, slots := ms, locals := 32 * k } mc ms 1 := cwV 1 hg (gw_V wd_ml_L_70 wd_im_X5_of wd_se_X5_of wd_in_X5 wd_co_X5_of) rfl rfl rfl (by decide +kernel) hR
theorem wd_ml_L_73 : Cond.methodLink RL 73 yX5_init ∈ GW := gw_at 43 (by decide +kernel) (by decide +kernel)
theorem wd_im_X5_init : Cond.instanceMethod yX5_init ∈ GW := gw_at 44 (by decide +kernel) (by decide +kernel)
theorem wd_ml_L_76 : Cond.methodLink RL 76 yX6_init ∈ GW := gw_at 557 (by decide +kernel) (by decide +kernel)
theorem wd_im_X6_init : Cond.instanceMethod yX6_init ∈ GW := gw_at 558 (by decide +kernel) (by decide +kernel)
theorem wd_ml_L_77 : Cond.methodLink RL 77 yX5_clear ∈ GW := gw_at 170 (by decide +kernel) (by decide +kernel)
theorem wd_im_X5_clear : Cond.instanceMethod yX5_clear ∈ GW := gw_at 171 (by decide +kernel) (by decide +kernel)
theorem wd_se_X5_clear : Cond.selects RX5 yX5_clear yX5_clear ∈ GW := gw_at 172 (by decide +kernel) (by decide +kernel)
theorem cv_L_77 {k mc ms : Nat} (hg : ∀ w ∈ GW, w.before args s = true) (hR : k + 1 ≤ R.frames ∧ 8 + (2 + 11) + 32 * k ≤ R.locals) : CallW R s args RL RX5 77 yX5_clear cX5_clear 2 (some .int) (ww yX5_clear cX5_clear 2 (some .int)) { frames := k, cells := mc, slots := ms, locals := 32 * k } mc ms 0 := cwV 0 hg (gw_V wd_ml_L_77 wd_im_X5_clear wd_se_X5_clear wd_in_X5 wd_co_X5_clear) rfl rfl rfl (by decide +kernel) hR
theorem wd_ml_L_81 : Cond.methodLink RL 81 yX6_clear ∈ GW := gw_at 624 (by decide +kernel) (by decide +kernel)
theorem wd_im_X6_clear : Cond.instanceMethod yX6_clear ∈ GW := gw_at 625 (by decide +kernel) (by decide +kernel)
theorem wd_se_X6_clear : Cond.selects RX6 yX6_clear yX6_clear ∈ GW := gw_at 626 (by decide +kernel) (by decide +kernel)
theorem cv_L_81 {k mc ms : Nat} (hg : ∀ w ∈ GW, w.before args s = true) (hR : k + 1 ≤ R.frames ∧ 8 + (2 + 11) + 32 * k ≤ R.locals) : CallW R s args RL RX6 81 yX6_clear cX6_clear 2 (some .int) (ww yX6_clear cX6_clear 2 (some .int)) { frames := k, cells := mc, slots := ms, locals := 32 * k } mc ms 0 := cwV 0 hg (gw_V wd_ml_L_81 wd_im_X6_clear wd_se_X6_clear wd_in_X6 wd_co_X6_clear) rfl rfl rfl (by decide +kernel) hR
theorem wd_ml_L_82 : Cond.methodLink RL 82 yL_note ∈ GW := gw_at 174 (by decide +kernel) (by decide +kernel)
theorem wd_st_L_note : Cond.static yL_note ∈ GW := gw_at 175 (by decide +kernel) (by decide +kernel)
theorem cv_L_82 {k mc ms : Nat} (hg : ∀ w ∈ GW, w.before args s = true) (hR : k + 1 ≤ R.frames ∧ 8 + (5 + 11) + 32 * k ≤ R.locals) : vx_CSW R s args RL 82 yL_note cL_note 5 (some .int) [(0, 10, 13, 13), (0, 10, 17, 15)] (wwW yL_note cL_note 5 (some .int) [(0, 10, 13, 13), (0, 10, 17, 15)]) { frames := k, cells := mc, slots := ms, locals := 32 * k } mc ms 4 := vx_cwSW 4 hg (gw_W wd_ml_L_82 wd_st_L_note wd_in_L wd_co_L_note) rfl rfl rfl (by decide +kernel) hR
theorem wd_ml_L_87 : Cond.methodLink RL 87 yX6_note ∈ GW := gw_at 628 (by decide +kernel) (by decide +kernel)
theorem wd_im_X6_note : Cond.instanceMethod yX6_note ∈ GW := gw_at 629 (by decide +kernel) (by decide +kernel)
theorem wd_se_X6_note : Cond.selects RX6 yX6_note yX6_note ∈ GW := gw_at 630 (by decide +kernel) (by decide +kernel)
theorem cv_L_87 {k mc ms : Nat} (hg : ∀ w ∈ GW, w.before args s = true) (hR : k + 1 ≤ R.frames ∧ 8 + (4 + 11) + 32 * k ≤ R.locals) : CallW R s args RL RX6 87 yX6_note cX6_note 4 (some .int) (ww yX6_note cX6_note 4 (some .int)) { frames := k, cells := mc, slots := ms, locals := 32 * k } mc ms 2 := cwV 2 hg (gw_V wd_ml_L_87 wd_im_X6_note wd_se_X6_note wd_in_X6 wd_co_X6_note) rfl rfl rfl (by decide +kernel) hR
theorem wd_ml_L_88 : Cond.methodLink RL 88 yX6_thrown ∈ GW := gw_at 620 (by decide +kernel) (by decide +kernel)
theorem wd_im_X6_thrown : Cond.instanceMethod yX6_thrown ∈ GW := gw_at 621 (by decide +kernel) (by decide +kernel)
theorem wd_se_X6_thrown : Cond.selects RX6 yX6_thrown yX6_thrown ∈ GW := gw_at 622 (by decide +kernel) (by decide +kernel)
theorem cv_L_88 {k mc ms : Nat} (hg : ∀ w ∈ GW, w.before args s = true) (hR : k + 1 ≤ R.frames ∧ 8 + (1 + 11) + 32 * k ≤ R.locals) : CallW R s args RL RX6 88 yX6_thrown cX6_thrown 1 (some .int) (ww yX6_thrown cX6_thrown 1 (some .int)) { frames := k, cells := mc, slots := ms, locals := 32 * k } mc ms 0 := cwV 0 hg (gw_V wd_ml_L_88 wd_im_X6_thrown wd_se_X6_thrown wd_in_X6 wd_co_X6_thrown) rfl rfl rfl (by decide +kernel) hR
theorem wd_ml_L_91 : Cond.methodLink RL 91 yL_drop ∈ GW := gw_at 274 (by decide +kernel) (by decide +kernel)
theorem wd_st_L_drop : Cond.static yL_drop ∈ GW := gw_at 275 (by decide +kernel) (by decide +kernel)
theorem cv_L_91 {k mc ms : Nat} (hg : ∀ w ∈ GW, w.before args s = true) (hR : k + 1 ≤ R.frames ∧ 8 + (4 + 11) + 32 * k ≤ R.locals) : vx_CSW R s args RL 91 yL_drop cL_drop 4 (some .int) [(0, 9, 12, 13)] (wwW yL_drop cL_drop 4 (some .int) [(0, 9, 12, 13)]) { frames := k, cells := mc, slots := ms, locals := 32 * k } mc ms 3 := vx_cwSW 3 hg (gw_W wd_ml_L_91 wd_st_L_drop wd_in_L wd_co_L_drop) rfl rfl rfl (by decide +kernel) hR
theorem wd_ml_L_94 : Cond.methodLink RL 94 yX6_drop ∈ GW := gw_at 641 (by decide +kernel) (by decide +kernel)
theorem wd_im_X6_drop : Cond.instanceMethod yX6_drop ∈ GW := gw_at 642 (by decide +kernel) (by decide +kernel)
theorem wd_se_X6_drop : Cond.selects RX6 yX6_drop yX6_drop ∈ GW := gw_at 643 (by decide +kernel) (by decide +kernel)
theorem cv_L_94 {k mc ms : Nat} (hg : ∀ w ∈ GW, w.before args s = true) (hR : k + 1 ≤ R.frames ∧ 8 + (2 + 11) + 32 * k ≤ R.locals) : CallW R s args RL RX6 94 yX6_drop cX6_drop 2 (some .int) (ww yX6_drop cX6_drop 2 (some .int)) { frames := k, cells := mc, slots := ms, locals := 32 * k } mc ms 1 := cwV 1 hg (gw_V wd_ml_L_94 wd_im_X6_drop wd_se_X6_drop wd_in_X6 wd_co_X6_drop) rfl rfl rfl (by decide +kernel) hR
theorem wd_ml_L_95 : Cond.methodLink RL 95 yL_items ∈ GW := gw_at 282 (by decide +kernel) (by decide +kernel)
theorem wd_st_L_items : Cond.static yL_items ∈ GW := gw_at 283 (by decide +kernel) (by decide +kernel)
theorem cv_L_95 {k mc ms : Nat} (hg : ∀ w ∈ GW, w.before args s = true) (hR : k + 1 ≤ R.frames ∧ 8 + (4 + 11) + 32 * k ≤ R.locals) : vx_CSW R s args RL 95 yL_items cL_items 4 (some .int) [(0, 9, 12, 13)] (wwW yL_items cL_items 4 (some .int) [(0, 9, 12, 13)]) { frames := k, cells := mc, slots := ms, locals := 32 * k } mc ms 3 := vx_cwSW 3 hg (gw_W wd_ml_L_95 wd_st_L_items wd_in_L wd_co_L_items) rfl rfl rfl (by decide +kernel) hR
theorem wd_ml_L_97 : Cond.methodLink RL 97 yX6_items ∈ GW := gw_at 645 (by decide +kernel) (by decide +kernel)
theorem wd_im_X6_items : Cond.instanceMethod yX6_items ∈ GW := gw_at 646 (by decide +kernel) (by decide +kernel)
theorem wd_se_X6_items : Cond.selects RX6 yX6_items yX6_items ∈ GW := gw_at 647 (by decide +kernel) (by decide +kernel)
theorem cv_L_97 {k mc ms : Nat} (hg : ∀ w ∈ GW, w.before args s = true) (hR : k + 1 ≤ R.frames ∧ 8 + (2 + 11) + 32 * k ≤ R.locals) : CallW R s args RL RX6 97 yX6_items cX6_items 2 (some .int) (ww yX6_items cX6_items 2 (some .int)) { frames := k, cells := mc, slots := ms, locals := 32 * k } mc ms 1 := cwV 1 hg (gw_V wd_ml_L_97 wd_im_X6_items wd_se_X6_items wd_in_X6 wd_co_X6_items) rfl rfl rfl (by decide +kernel) hR
theorem wd_ml_L_98 : Cond.methodLink RL 98 yL_item ∈ GW := gw_at 296 (by decide +kernel) (by decide +kernel)
theorem wd_st_L_item : Cond.static yL_item ∈ GW := gw_at 297 (by decide +kernel) (by decide +kernel)
theorem cv_L_98 {k mc ms : Nat} (hg : ∀ w ∈ GW, w.before args s = true) (hR : k + 1 ≤ R.frames ∧ 8 + (5 + 11) + 32 * k ≤ R.locals) : vx_CSW R s args RL 98 yL_item cL_item 5 (some .int) [(0, 10, 13, 13)] (wwW yL_item cL_item 5 (some .int) [(0, 10, 13, 13)]) { frames := k, cells := mc, slots := ms, locals := 32 * k } mc ms 4 := vx_cwSW 4 hg (gw_W wd_ml_L_98 wd_st_L_item wd_in_L wd_co_L_item) rfl rfl rfl (by decide +kernel) hR
theorem wd_ml_L_100 : Cond.methodLink RL 100 yX6_item ∈ GW := gw_at 657 (by decide +kernel) (by decide +kernel)
theorem wd_im_X6_item : Cond.instanceMethod yX6_item ∈ GW := gw_at 658 (by decide +kernel) (by decide +kernel)
theorem wd_se_X6_item : Cond.selects RX6 yX6_item yX6_item ∈ GW := gw_at 659 (by decide +kernel) (by decide +kernel)
theorem cv_L_100 {k mc ms : Nat} (hg : ∀ w ∈ GW, w.before args s = true) (hR : k + 1 ≤ R.frames ∧ 8 + (3 + 11) + 32 * k ≤ R.locals) : CallW R s args RL RX6 100 yX6_item cX6_item 3 (some .int) (ww yX6_item cX6_item 3 (some .int)) { frames := k, cells := mc, slots := ms, locals := 32 * k } mc ms 2 := cwV 2 hg (gw_V wd_ml_L_100 wd_im_X6_item wd_se_X6_item wd_in_X6 wd_co_X6_item) rfl rfl rfl (by decide +kernel) hR
theorem wd_ml_L_101 : Cond.methodLink RL 101 yL_repeats ∈ GW := gw_at 314 (by decide +kernel) (by decide +kernel)
theorem wd_st_L_repeats : Cond.static yL_repeats ∈ GW := gw_at 315 (by decide +kernel) (by decide +kernel)
theorem cv_L_101 {k mc ms : Nat} (hg : ∀ w ∈ GW, w.before args s = true) (hR : k + 1 ≤ R.frames ∧ 8 + (5 + 11) + 32 * k ≤ R.locals) : vx_CSW R s args RL 101 yL_repeats cL_repeats 5 (some .int) [(0, 10, 13, 13)] (wwW yL_repeats cL_repeats 5 (some .int) [(0, 10, 13, 13)]) { frames := k, cells := mc, slots := ms, locals := 32 * k } mc ms 4 := vx_cwSW 4 hg (gw_W wd_ml_L_101 wd_st_L_repeats wd_in_L wd_co_L_repeats) rfl rfl rfl (by decide +kernel) hR
theorem wd_ml_L_103 : Cond.methodLink RL 103 yX6_repeats ∈ GW := gw_at 665 (by decide +kernel) (by decide +kernel)
theorem wd_im_X6_repeats : Cond.instanceMethod yX6_repeats ∈ GW := gw_at 666 (by decide +kernel) (by decide +kernel)
theorem wd_se_X6_repeats : Cond.selects RX6 yX6_repeats yX6_repeats ∈ GW := gw_at 667 (by decide +kernel) (by decide +kernel)
theorem cv_L_103 {k mc ms : Nat} (hg : ∀ w ∈ GW, w.before args s = true) (hR : k + 1 ≤ R.frames ∧ 8 + (7 + 11) + 32 * k ≤ R.locals) : CallW R s args RL RX6 103 yX6_repeats cX6_repeats 7 (some .int) (ww yX6_repeats cX6_repeats 7 (some .int)) { frames := k, cells := mc, slots := ms, locals := 32 * k } mc ms 2 := cwV 2 hg (gw_V wd_ml_L_103 wd_im_X6_repeats wd_se_X6_repeats wd_in_X6 wd_co_X6_repeats) rfl rfl rfl (by decide +kernel) hR
theorem wd_ml_L_104 : Cond.methodLink RL 104 yL_repeat ∈ GW := gw_at 356 (by decide +kernel) (by decide +kernel)
theorem wd_st_L_repeat : Cond.static yL_repeat ∈ GW := gw_at 357 (by decide +kernel) (by decide +kernel)
theorem cv_L_104 {k mc ms : Nat} (hg : ∀ w ∈ GW, w.before args s = true) (hR : k + 1 ≤ R.frames ∧ 8 + (5 + 11) + 32 * k ≤ R.locals) : vx_CSW R s args RL 104 yL_repeat cL_repeat 5 (some .int) [(0, 10, 13, 13)] (wwW yL_repeat cL_repeat 5 (some .int) [(0, 10, 13, 13)]) { frames := k, cells := mc, slots := ms, locals := 32 * k } mc ms 4 := vx_cwSW 4 hg (gw_W wd_ml_L_104 wd_st_L_repeat wd_in_L wd_co_L_repeat) rfl rfl rfl (by decide +kernel) hR
theorem wd_ml_L_106 : Cond.methodLink RL 106 yX6_repeat ∈ GW := gw_at 674 (by decide +kernel) (by decide +kernel)
theorem wd_im_X6_repeat : Cond.instanceMethod yX6_repeat ∈ GW := gw_at 675 (by decide +kernel) (by decide +kernel)
theorem wd_se_X6_repeat : Cond.selects RX6 yX6_repeat yX6_repeat ∈ GW := gw_at 676 (by decide +kernel) (by decide +kernel)
theorem cv_L_106 {k mc ms : Nat} (hg : ∀ w ∈ GW, w.before args s = true) (hR : k + 1 ≤ R.frames ∧ 8 + (3 + 11) + 32 * k ≤ R.locals) : CallW R s args RL RX6 106 yX6_repeat cX6_repeat 3 (some .int) (ww yX6_repeat cX6_repeat 3 (some .int)) { frames := k, cells := mc, slots := ms, locals := 32 * k } mc ms 2 := cwV 2 hg (gw_V wd_ml_L_106 wd_im_X6_repeat wd_se_X6_repeat wd_in_X6 wd_co_X6_repeat) rfl rfl rfl (by decide +kernel) hR
theorem wd_ml_L_107 : Cond.methodLink RL 107 yL_passages ∈ GW := gw_at 368 (by decide +kernel) (by decide +kernel)
theorem wd_st_L_passages : Cond.static yL_passages ∈ GW := gw_at 369 (by decide +kernel) (by decide +kernel)
theorem cv_L_107 {k mc ms : Nat} (hg : ∀ w ∈ GW, w.before args s = true) (hR : k + 1 ≤ R.frames ∧ 8 + (5 + 11) + 32 * k ≤ R.locals) : vx_CSW R s args RL 107 yL_passages cL_passages 5 (some .int) [(0, 10, 13, 13)] (wwW yL_passages cL_passages 5 (some .int) [(0, 10, 13, 13)]) { frames := k, cells := mc, slots := ms, locals := 32 * k } mc ms 4 := vx_cwSW 4 hg (gw_W wd_ml_L_107 wd_st_L_passages wd_in_L wd_co_L_passages) rfl rfl rfl (by decide +kernel) hR
theorem wd_ml_L_109 : Cond.methodLink RL 109 yX6_passages ∈ GW := gw_at 679 (by decide +kernel) (by decide +kernel)
theorem wd_im_X6_passages : Cond.instanceMethod yX6_passages ∈ GW := gw_at 680 (by decide +kernel) (by decide +kernel)
theorem wd_se_X6_passages : Cond.selects RX6 yX6_passages yX6_passages ∈ GW := gw_at 681 (by decide +kernel) (by decide +kernel)
theorem cv_L_109 {k mc ms : Nat} (hg : ∀ w ∈ GW, w.before args s = true) (hR : k + 1 ≤ R.frames ∧ 8 + (7 + 11) + 32 * k ≤ R.locals) : CallW R s args RL RX6 109 yX6_passages cX6_passages 7 (some .int) (ww yX6_passages cX6_passages 7 (some .int)) { frames := k, cells := mc, slots := ms, locals := 32 * k } mc ms 2 := cwV 2 hg (gw_V wd_ml_L_109 wd_im_X6_passages wd_se_X6_passages wd_in_X6 wd_co_X6_passages) rfl rfl rfl (by decide +kernel) hR
theorem wd_ml_L_110 : Cond.methodLink RL 110 yL_period ∈ GW := gw_at 384 (by decide +kernel) (by decide +kernel)
theorem wd_st_L_period : Cond.static yL_period ∈ GW := gw_at 385 (by decide +kernel) (by decide +kernel)
theorem cv_L_110 {k mc ms : Nat} (hg : ∀ w ∈ GW, w.before args s = true) (hR : k + 1 ≤ R.frames ∧ 8 + (4 + 11) + 32 * k ≤ R.locals) : vx_CSW R s args RL 110 yL_period cL_period 4 (some .int) [(0, 9, 12, 13)] (wwW yL_period cL_period 4 (some .int) [(0, 9, 12, 13)]) { frames := k, cells := mc, slots := ms, locals := 32 * k } mc ms 3 := vx_cwSW 3 hg (gw_W wd_ml_L_110 wd_st_L_period wd_in_L wd_co_L_period) rfl rfl rfl (by decide +kernel) hR
theorem wd_ml_L_112 : Cond.methodLink RL 112 yX6_period ∈ GW := gw_at 683 (by decide +kernel) (by decide +kernel)
theorem wd_im_X6_period : Cond.instanceMethod yX6_period ∈ GW := gw_at 684 (by decide +kernel) (by decide +kernel)
theorem wd_se_X6_period : Cond.selects RX6 yX6_period yX6_period ∈ GW := gw_at 685 (by decide +kernel) (by decide +kernel)
theorem cv_L_112 {k mc ms : Nat} (hg : ∀ w ∈ GW, w.before args s = true) (hR : k + 1 ≤ R.frames ∧ 8 + (3 + 11) + 32 * k ≤ R.locals) : CallW R s args RL RX6 112 yX6_period cX6_period 3 (some .int) (ww yX6_period cX6_period 3 (some .int)) { frames := k, cells := mc, slots := ms, locals := 32 * k } mc ms 1 := cwV 1 hg (gw_V wd_ml_L_112 wd_im_X6_period wd_se_X6_period wd_in_X6 wd_co_X6_period) rfl rfl rfl (by decide +kernel) hR
theorem wd_ml_L_113 : Cond.methodLink RL 113 yL_alike ∈ GW := gw_at 395 (by decide +kernel) (by decide +kernel)
theorem wd_st_L_alike : Cond.static yL_alike ∈ GW := gw_at 396 (by decide +kernel) (by decide +kernel)
theorem cv_L_113 {k mc ms : Nat} (hg : ∀ w ∈ GW, w.before args s = true) (hR : k + 1 ≤ R.frames ∧ 8 + (7 + 11) + 32 * k ≤ R.locals) : vx_CSW R s args RL 113 yL_alike cL_alike 7 (some .int) [(0, 14, 17, 13), (0, 14, 21, 43)] (wwW yL_alike cL_alike 7 (some .int) [(0, 14, 17, 13), (0, 14, 21, 43)]) { frames := k, cells := mc, slots := ms, locals := 32 * k } mc ms 6 := vx_cwSW 6 hg (gw_W wd_ml_L_113 wd_st_L_alike wd_in_L wd_co_L_alike) rfl rfl rfl (by decide +kernel) hR
theorem wd_ml_L_116 : Cond.methodLink RL 116 yX6_alike ∈ GW := gw_at 687 (by decide +kernel) (by decide +kernel)
theorem wd_im_X6_alike : Cond.instanceMethod yX6_alike ∈ GW := gw_at 688 (by decide +kernel) (by decide +kernel)
theorem wd_se_X6_alike : Cond.selects RX6 yX6_alike yX6_alike ∈ GW := gw_at 689 (by decide +kernel) (by decide +kernel)
theorem cv_L_116 {k mc ms : Nat} (hg : ∀ w ∈ GW, w.before args s = true) (hR : k + 1 ≤ R.frames ∧ 8 + (8 + 11) + 32 * k ≤ R.locals) : CallW R s args RL RX6 116 yX6_alike cX6_alike 8 (some .int) (ww yX6_alike cX6_alike 8 (some .int)) { frames := k, cells := mc, slots := ms, locals := 32 * k } mc ms 4 := cwV 4 hg (gw_V wd_ml_L_116 wd_im_X6_alike wd_se_X6_alike wd_in_X6 wd_co_X6_alike) rfl rfl rfl (by decide +kernel) hR
theorem wd_ml_L_117 : Cond.methodLink RL 117 yL_motive ∈ GW := gw_at 424 (by decide +kernel) (by decide +kernel)
theorem wd_st_L_motive : Cond.static yL_motive ∈ GW := gw_at 425 (by decide +kernel) (by decide +kernel)
theorem cv_L_117 {k mc ms : Nat} (hg : ∀ w ∈ GW, w.before args s = true) (hR : k + 1 ≤ R.frames ∧ 8 + (5 + 11) + 32 * k ≤ R.locals) : vx_CSW R s args RL 117 yL_motive cL_motive 5 (some .int) [(0, 10, 13, 13)] (wwW yL_motive cL_motive 5 (some .int) [(0, 10, 13, 13)]) { frames := k, cells := mc, slots := ms, locals := 32 * k } mc ms 4 := vx_cwSW 4 hg (gw_W wd_ml_L_117 wd_st_L_motive wd_in_L wd_co_L_motive) rfl rfl rfl (by decide +kernel) hR
theorem wd_ml_L_119 : Cond.methodLink RL 119 yX6_motive ∈ GW := gw_at 691 (by decide +kernel) (by decide +kernel)
theorem wd_im_X6_motive : Cond.instanceMethod yX6_motive ∈ GW := gw_at 692 (by decide +kernel) (by decide +kernel)
theorem wd_se_X6_motive : Cond.selects RX6 yX6_motive yX6_motive ∈ GW := gw_at 693 (by decide +kernel) (by decide +kernel)
theorem cv_L_119 {k mc ms : Nat} (hg : ∀ w ∈ GW, w.before args s = true) (hR : k + 1 ≤ R.frames ∧ 8 + (4 + 11) + 32 * k ≤ R.locals) : CallW R s args RL RX6 119 yX6_motive cX6_motive 4 (some .int) (ww yX6_motive cX6_motive 4 (some .int)) { frames := k, cells := mc, slots := ms, locals := 32 * k } mc ms 2 := cwV 2 hg (gw_V wd_ml_L_119 wd_im_X6_motive wd_se_X6_motive wd_in_X6 wd_co_X6_motive) rfl rfl rfl (by decide +kernel) hR
theorem wd_ml_L_120 : Cond.methodLink RL 120 yL_form ∈ GW := gw_at 432 (by decide +kernel) (by decide +kernel)
theorem wd_st_L_form : Cond.static yL_form ∈ GW := gw_at 433 (by decide +kernel) (by decide +kernel)
theorem cv_L_120 {k mc ms : Nat} (hg : ∀ w ∈ GW, w.before args s = true) (hR : k + 1 ≤ R.frames ∧ 8 + (6 + 11) + 32 * k ≤ R.locals) : vx_CSW R s args RL 120 yL_form cL_form 6 (some .int) [(0, 12, 15, 13)] (wwW yL_form cL_form 6 (some .int) [(0, 12, 15, 13)]) { frames := k, cells := mc, slots := ms, locals := 32 * k } mc ms 5 := vx_cwSW 5 hg (gw_W wd_ml_L_120 wd_st_L_form wd_in_L wd_co_L_form) rfl rfl rfl (by decide +kernel) hR
theorem wd_ml_L_123 : Cond.methodLink RL 123 yX6_form ∈ GW := gw_at 696 (by decide +kernel) (by decide +kernel)
theorem wd_im_X6_form : Cond.instanceMethod yX6_form ∈ GW := gw_at 697 (by decide +kernel) (by decide +kernel)
theorem wd_se_X6_form : Cond.selects RX6 yX6_form yX6_form ∈ GW := gw_at 698 (by decide +kernel) (by decide +kernel)
theorem cv_L_123 {k mc ms : Nat} (hg : ∀ w ∈ GW, w.before args s = true) (hR : k + 1 ≤ R.frames ∧ 8 + (4 + 11) + 32 * k ≤ R.locals) : CallW R s args RL RX6 123 yX6_form cX6_form 4 (some .int) (ww yX6_form cX6_form 4 (some .int)) { frames := k, cells := mc, slots := ms, locals := 32 * k } mc ms 3 := cwV 3 hg (gw_V wd_ml_L_123 wd_im_X6_form wd_se_X6_form wd_in_X6 wd_co_X6_form) rfl rfl rfl (by decide +kernel) hR
theorem wd_ml_L_124 : Cond.methodLink RL 124 yL_find ∈ GW := gw_at 455 (by decide +kernel) (by decide +kernel)
theorem wd_st_L_find : Cond.static yL_find ∈ GW := gw_at 456 (by decide +kernel) (by decide +kernel)
theorem cv_L_124 {k mc ms : Nat} (hg : ∀ w ∈ GW, w.before args s = true) (hR : k + 1 ≤ R.frames ∧ 8 + (6 + 11) + 32 * k ≤ R.locals) : vx_CSW R s args RL 124 yL_find cL_find 6 (some .int) [(0, 12, 15, 13), (0, 12, 19, 15)] (wwW yL_find cL_find 6 (some .int) [(0, 12, 15, 13), (0, 12, 19, 15)]) { frames := k, cells := mc, slots := ms, locals := 32 * k } mc ms 5 := vx_cwSW 5 hg (gw_W wd_ml_L_124 wd_st_L_find wd_in_L wd_co_L_find) rfl rfl rfl (by decide +kernel) hR
theorem wd_ml_L_126 : Cond.methodLink RL 126 yX6_find ∈ GW := gw_at 709 (by decide +kernel) (by decide +kernel)
theorem wd_im_X6_find : Cond.instanceMethod yX6_find ∈ GW := gw_at 710 (by decide +kernel) (by decide +kernel)
theorem wd_se_X6_find : Cond.selects RX6 yX6_find yX6_find ∈ GW := gw_at 711 (by decide +kernel) (by decide +kernel)
theorem cv_L_126 {k mc ms : Nat} (hg : ∀ w ∈ GW, w.before args s = true) (hR : k + 1 ≤ R.frames ∧ 8 + (8 + 11) + 32 * k ≤ R.locals) : CallW R s args RL RX6 126 yX6_find cX6_find 8 (some .int) (ww yX6_find cX6_find 8 (some .int)) { frames := k, cells := mc, slots := ms, locals := 32 * k } mc ms 3 := cwV 3 hg (gw_V wd_ml_L_126 wd_im_X6_find wd_se_X6_find wd_in_X6 wd_co_X6_find) rfl rfl rfl (by decide +kernel) hR
theorem wd_ml_L_127 : Cond.methodLink RL 127 yL_answer ∈ GW := gw_at 480 (by decide +kernel) (by decide +kernel)
theorem wd_st_L_answer : Cond.static yL_answer ∈ GW := gw_at 481 (by decide +kernel) (by decide +kernel)
theorem cv_L_127 {k mc ms : Nat} (hg : ∀ w ∈ GW, w.before args s = true) (hR : k + 1 ≤ R.frames ∧ 8 + (6 + 11) + 32 * k ≤ R.locals) : vx_CSW R s args RL 127 yL_answer cL_answer 6 (some .int) [(0, 12, 15, 13)] (wwW yL_answer cL_answer 6 (some .int) [(0, 12, 15, 13)]) { frames := k, cells := mc, slots := ms, locals := 32 * k } mc ms 5 := vx_cwSW 5 hg (gw_W wd_ml_L_127 wd_st_L_answer wd_in_L wd_co_L_answer) rfl rfl rfl (by decide +kernel) hR
theorem wd_ml_L_129 : Cond.methodLink RL 129 yX6_answer ∈ GW := gw_at 718 (by decide +kernel) (by decide +kernel)
theorem wd_im_X6_answer : Cond.instanceMethod yX6_answer ∈ GW := gw_at 719 (by decide +kernel) (by decide +kernel)
theorem wd_se_X6_answer : Cond.selects RX6 yX6_answer yX6_answer ∈ GW := gw_at 720 (by decide +kernel) (by decide +kernel)
theorem cv_L_129 {k mc ms : Nat} (hg : ∀ w ∈ GW, w.before args s = true) (hR : k + 1 ≤ R.frames ∧ 8 + (4 + 11) + 32 * k ≤ R.locals) : CallW R s args RL RX6 129 yX6_answer cX6_answer 4 (some .int) (ww yX6_answer cX6_answer 4 (some .int)) { frames := k, cells := mc, slots := ms, locals := 32 * k } mc ms 3 := cwV 3 hg (gw_V wd_ml_L_129 wd_im_X6_answer wd_se_X6_answer wd_in_X6 wd_co_X6_answer) rfl rfl rfl (by decide +kernel) hR
theorem wd_ml_L_130 : Cond.methodLink RL 130 yL_entries ∈ GW := gw_at 498 (by decide +kernel) (by decide +kernel)
theorem wd_st_L_entries : Cond.static yL_entries ∈ GW := gw_at 499 (by decide +kernel) (by decide +kernel)
theorem cv_L_130 {k mc ms : Nat} (hg : ∀ w ∈ GW, w.before args s = true) (hR : k + 1 ≤ R.frames ∧ 8 + (5 + 11) + 32 * k ≤ R.locals) : vx_CSW R s args RL 130 yL_entries cL_entries 5 (some .int) [(0, 10, 13, 13), (0, 10, 17, 15)] (wwW yL_entries cL_entries 5 (some .int) [(0, 10, 13, 13), (0, 10, 17, 15)]) { frames := k, cells := mc, slots := ms, locals := 32 * k } mc ms 4 := vx_cwSW 4 hg (gw_W wd_ml_L_130 wd_st_L_entries wd_in_L wd_co_L_entries) rfl rfl rfl (by decide +kernel) hR
theorem wd_ml_L_132 : Cond.methodLink RL 132 yX6_entries ∈ GW := gw_at 727 (by decide +kernel) (by decide +kernel)
theorem wd_im_X6_entries : Cond.instanceMethod yX6_entries ∈ GW := gw_at 728 (by decide +kernel) (by decide +kernel)
theorem wd_se_X6_entries : Cond.selects RX6 yX6_entries yX6_entries ∈ GW := gw_at 729 (by decide +kernel) (by decide +kernel)
theorem cv_L_132 {k mc ms : Nat} (hg : ∀ w ∈ GW, w.before args s = true) (hR : k + 1 ≤ R.frames ∧ 8 + (4 + 11) + 32 * k ≤ R.locals) : CallW R s args RL RX6 132 yX6_entries cX6_entries 4 (some .int) (ww yX6_entries cX6_entries 4 (some .int)) { frames := k, cells := mc, slots := ms, locals := 32 * k } mc ms 2 := cwV 2 hg (gw_V wd_ml_L_132 wd_im_X6_entries wd_se_X6_entries wd_in_X6 wd_co_X6_entries) rfl rfl rfl (by decide +kernel) hR
theorem wd_ml_L_133 : Cond.methodLink RL 133 yL_found ∈ GW := gw_at 506 (by decide +kernel) (by decide +kernel)
theorem wd_st_L_found : Cond.static yL_found ∈ GW := gw_at 507 (by decide +kernel) (by decide +kernel)
theorem cv_L_133 {k mc ms : Nat} (hg : ∀ w ∈ GW, w.before args s = true) (hR : k + 1 ≤ R.frames ∧ 8 + (4 + 11) + 32 * k ≤ R.locals) : vx_CSW R s args RL 133 yL_found cL_found 4 (some .int) [(0, 9, 12, 13)] (wwW yL_found cL_found 4 (some .int) [(0, 9, 12, 13)]) { frames := k, cells := mc, slots := ms, locals := 32 * k } mc ms 3 := vx_cwSW 3 hg (gw_W wd_ml_L_133 wd_st_L_found wd_in_L wd_co_L_found) rfl rfl rfl (by decide +kernel) hR
theorem wd_ml_L_135 : Cond.methodLink RL 135 yX6_found ∈ GW := gw_at 731 (by decide +kernel) (by decide +kernel)
theorem wd_im_X6_found : Cond.instanceMethod yX6_found ∈ GW := gw_at 732 (by decide +kernel) (by decide +kernel)
theorem wd_se_X6_found : Cond.selects RX6 yX6_found yX6_found ∈ GW := gw_at 733 (by decide +kernel) (by decide +kernel)
theorem cv_L_135 {k mc ms : Nat} (hg : ∀ w ∈ GW, w.before args s = true) (hR : k + 1 ≤ R.frames ∧ 8 + (2 + 11) + 32 * k ≤ R.locals) : CallW R s args RL RX6 135 yX6_found cX6_found 2 (some .int) (ww yX6_found cX6_found 2 (some .int)) { frames := k, cells := mc, slots := ms, locals := 32 * k } mc ms 1 := cwV 1 hg (gw_V wd_ml_L_135 wd_im_X6_found wd_se_X6_found wd_in_X6 wd_co_X6_found) rfl rfl rfl (by decide +kernel) hR
theorem wd_ml_L_136 : Cond.methodLink RL 136 yL_sections ∈ GW := gw_at 514 (by decide +kernel) (by decide +kernel)
theorem wd_st_L_sections : Cond.static yL_sections ∈ GW := gw_at 515 (by decide +kernel) (by decide +kernel)
theorem cv_L_136 {k mc ms : Nat} (hg : ∀ w ∈ GW, w.before args s = true) (hR : k + 1 ≤ R.frames ∧ 8 + (5 + 11) + 32 * k ≤ R.locals) : vx_CSW R s args RL 136 yL_sections cL_sections 5 (some .int) [(0, 10, 13, 13)] (wwW yL_sections cL_sections 5 (some .int) [(0, 10, 13, 13)]) { frames := k, cells := mc, slots := ms, locals := 32 * k } mc ms 4 := vx_cwSW 4 hg (gw_W wd_ml_L_136 wd_st_L_sections wd_in_L wd_co_L_sections) rfl rfl rfl (by decide +kernel) hR
theorem wd_ml_L_138 : Cond.methodLink RL 138 yX6_sections ∈ GW := gw_at 735 (by decide +kernel) (by decide +kernel)
theorem wd_im_X6_sections : Cond.instanceMethod yX6_sections ∈ GW := gw_at 736 (by decide +kernel) (by decide +kernel)
theorem wd_se_X6_sections : Cond.selects RX6 yX6_sections yX6_sections ∈ GW := gw_at 737 (by decide +kernel) (by decide +kernel)
theorem cv_L_138 {k mc ms : Nat} (hg : ∀ w ∈ GW, w.before args s = true) (hR : k + 1 ≤ R.frames ∧ 8 + (8 + 11) + 32 * k ≤ R.locals) : CallW R s args RL RX6 138 yX6_sections cX6_sections 8 (some .int) (ww yX6_sections cX6_sections 8 (some .int)) { frames := k, cells := mc, slots := ms, locals := 32 * k } mc ms 2 := cwV 2 hg (gw_V wd_ml_L_138 wd_im_X6_sections wd_se_X6_sections wd_in_X6 wd_co_X6_sections) rfl rfl rfl (by decide +kernel) hR
theorem wd_ml_L_139 : Cond.methodLink RL 139 yL_section ∈ GW := gw_at 540 (by decide +kernel) (by decide +kernel)
theorem wd_st_L_section : Cond.static yL_section ∈ GW := gw_at 541 (by decide +kernel) (by decide +kernel)
theorem cv_L_139 {k mc ms : Nat} (hg : ∀ w ∈ GW, w.before args s = true) (hR : k + 1 ≤ R.frames ∧ 8 + (4 + 11) + 32 * k ≤ R.locals) : vx_CSW R s args RL 139 yL_section cL_section 4 (some .int) [(0, 9, 12, 13)] (wwW yL_section cL_section 4 (some .int) [(0, 9, 12, 13)]) { frames := k, cells := mc, slots := ms, locals := 32 * k } mc ms 3 := vx_cwSW 3 hg (gw_W wd_ml_L_139 wd_st_L_section wd_in_L wd_co_L_section) rfl rfl rfl (by decide +kernel) hR
theorem wd_ml_L_141 : Cond.methodLink RL 141 yX6_section ∈ GW := gw_at 745 (by decide +kernel) (by decide +kernel)
theorem wd_im_X6_section : Cond.instanceMethod yX6_section ∈ GW := gw_at 746 (by decide +kernel) (by decide +kernel)
theorem wd_se_X6_section : Cond.selects RX6 yX6_section yX6_section ∈ GW := gw_at 747 (by decide +kernel) (by decide +kernel)
theorem cv_L_141 {k mc ms : Nat} (hg : ∀ w ∈ GW, w.before args s = true) (hR : k + 1 ≤ R.frames ∧ 8 + (2 + 11) + 32 * k ≤ R.locals) : CallW R s args RL RX6 141 yX6_section cX6_section 2 (some .int) (ww yX6_section cX6_section 2 (some .int)) { frames := k, cells := mc, slots := ms, locals := 32 * k } mc ms 1 := cwV 1 hg (gw_V wd_ml_L_141 wd_im_X6_section wd_se_X6_section wd_in_X6 wd_co_X6_section) rfl rfl rfl (by decide +kernel) hR
theorem wd_ml_L_142 : Cond.methodLink RL 142 yL_of ∈ GW := gw_at 547 (by decide +kernel) (by decide +kernel)
theorem wd_st_L_of : Cond.static yL_of ∈ GW := gw_at 548 (by decide +kernel) (by decide +kernel)
theorem cv_L_142 {k mc ms : Nat} (hg : ∀ w ∈ GW, w.before args s = true) (hR : k + 1 ≤ R.frames ∧ 8 + (4 + 11) + 32 * k ≤ R.locals) : vx_CSW R s args RL 142 yL_of cL_of 4 (some .int) [(0, 9, 12, 13)] (wwW yL_of cL_of 4 (some .int) [(0, 9, 12, 13)]) { frames := k, cells := mc, slots := ms, locals := 32 * k } mc ms 3 := vx_cwSW 3 hg (gw_W wd_ml_L_142 wd_st_L_of wd_in_L wd_co_L_of) rfl rfl rfl (by decide +kernel) hR
theorem wd_ml_L_144 : Cond.methodLink RL 144 yX6_of ∈ GW := gw_at 749 (by decide +kernel) (by decide +kernel)
theorem wd_im_X6_of : Cond.instanceMethod yX6_of ∈ GW := gw_at 750 (by decide +kernel) (by decide +kernel)
theorem wd_se_X6_of : Cond.selects RX6 yX6_of yX6_of ∈ GW := gw_at 751 (by decide +kernel) (by decide +kernel)
theorem cv_L_144 {k mc ms : Nat} (hg : ∀ w ∈ GW, w.before args s = true) (hR : k + 1 ≤ R.frames ∧ 8 + (2 + 11) + 32 * k ≤ R.locals) : CallW R s args RL RX6 144 yX6_of cX6_of 2 (some .int) (ww yX6_of cX6_of 2 (some .int)) { frames := k, cells := mc, slots := ms, locals := 32 * k } mc ms 1 := cwV 1 hg (gw_V wd_ml_L_144 wd_im_X6_of wd_se_X6_of wd_in_X6 wd_co_X6_of) rfl rfl rfl (by decide +kernel) hR
theorem wd_ml_X6_43 : Cond.methodLink RX6 43 yX6_begin ∈ GW := gw_at 561 (by decide +kernel) (by decide +kernel)
theorem wd_im_X6_begin : Cond.instanceMethod yX6_begin ∈ GW := gw_at 563 (by decide +kernel) (by decide +kernel)
theorem wd_se_X6_begin : Cond.selects RX6 yX6_begin yX6_begin ∈ GW := gw_at 15 (by decide +kernel) (by decide +kernel)
theorem cv_X6_43 {k mc ms : Nat} (hg : ∀ w ∈ GW, w.before args s = true) (hR : k + 1 ≤ R.frames ∧ 8 + (1 + 11) + 32 * k ≤ R.locals) : CallW R s args RX6 RX6 43 yX6_begin cX6_begin 1 none (ww yX6_begin cX6_begin 1 none) { frames := k, cells := mc, slots := ms, locals := 32 * k } mc ms 0 := cwV 0 hg (gw_V wd_ml_X6_43 wd_im_X6_begin wd_se_X6_begin wd_in_X6 wd_co_X6_begin) rfl rfl rfl (by decide +kernel) hR
theorem wd_ml_X6_70 : Cond.methodLink RX6 70 yX6_isIn ∈ GW := gw_at 633 (by decide +kernel) (by decide +kernel)
theorem wd_st_X6_isIn : Cond.static yX6_isIn ∈ GW := gw_at 634 (by decide +kernel) (by decide +kernel)
theorem cv_X6_70 {k mc ms : Nat} (hg : ∀ w ∈ GW, w.before args s = true) (hR : k + 1 ≤ R.frames ∧ 8 + (6 + 11) + 32 * k ≤ R.locals) : CallB R s args RX6 70 yX6_isIn cX6_isIn 6 (some .boolean) (ww yX6_isIn cX6_isIn 6 (some .boolean)) { frames := k, cells := mc, slots := ms, locals := 32 * k } mc ms 3 ∧ (Cond.static yX6_isIn).before args s = true := va_cwS 3 hg (gw_S wd_ml_X6_70 wd_st_X6_isIn wd_in_X6 wd_co_X6_isIn) rfl rfl rfl (by decide +kernel) hR
theorem wd_ml_X6_76 : Cond.methodLink RX6 76 yX6_goesOn ∈ GW := gw_at 637 (by decide +kernel) (by decide +kernel)
theorem wd_im_X6_goesOn : Cond.instanceMethod yX6_goesOn ∈ GW := gw_at 639 (by decide +kernel) (by decide +kernel)
theorem wd_se_X6_goesOn : Cond.selects RX6 yX6_goesOn yX6_goesOn ∈ GW := gw_at 16 (by decide +kernel) (by decide +kernel)
theorem cv_X6_76 {k mc ms : Nat} (hg : ∀ w ∈ GW, w.before args s = true) (hR : k + 1 ≤ R.frames ∧ 8 + (3 + 11) + 32 * k ≤ R.locals) : CallW R s args RX6 RX6 76 yX6_goesOn cX6_goesOn 3 (some .boolean) (ww yX6_goesOn cX6_goesOn 3 (some .boolean)) { frames := k, cells := mc, slots := ms, locals := 32 * k } mc ms 2 := cwV 2 hg (gw_V wd_ml_X6_76 wd_im_X6_goesOn wd_se_X6_goesOn wd_in_X6 wd_co_X6_goesOn) rfl rfl rfl (by decide +kernel) hR
theorem wd_ml_X6_82 : Cond.methodLink RX6 82 yX6_isView ∈ GW := gw_at 649 (by decide +kernel) (by decide +kernel)
theorem wd_st_X6_isView : Cond.static yX6_isView ∈ GW := gw_at 650 (by decide +kernel) (by decide +kernel)
theorem cv_X6_82 {k mc ms : Nat} (hg : ∀ w ∈ GW, w.before args s = true) (hR : k + 1 ≤ R.frames ∧ 8 + (1 + 11) + 32 * k ≤ R.locals) : CallB R s args RX6 82 yX6_isView cX6_isView 1 (some .boolean) (ww yX6_isView cX6_isView 1 (some .boolean)) { frames := k, cells := mc, slots := ms, locals := 32 * k } mc ms 1 ∧ (Cond.static yX6_isView).before args s = true := va_cwS 1 hg (gw_S wd_ml_X6_82 wd_st_X6_isView wd_in_X6 wd_co_X6_isView) rfl rfl rfl (by decide +kernel) hR
theorem wd_ml_X6_86 : Cond.methodLink RX6 86 yX6_many ∈ GW := gw_at 653 (by decide +kernel) (by decide +kernel)
theorem wd_im_X6_many : Cond.instanceMethod yX6_many ∈ GW := gw_at 655 (by decide +kernel) (by decide +kernel)
theorem wd_se_X6_many : Cond.selects RX6 yX6_many yX6_many ∈ GW := gw_at 17 (by decide +kernel) (by decide +kernel)
theorem cv_X6_86 {k mc ms : Nat} (hg : ∀ w ∈ GW, w.before args s = true) (hR : k + 1 ≤ R.frames ∧ 8 + (2 + 11) + 32 * k ≤ R.locals) : CallW R s args RX6 RX6 86 yX6_many cX6_many 2 (some .int) (ww yX6_many cX6_many 2 (some .int)) { frames := k, cells := mc, slots := ms, locals := 32 * k } mc ms 1 := cwV 1 hg (gw_V wd_ml_X6_86 wd_im_X6_many wd_se_X6_many wd_in_X6 wd_co_X6_many) rfl rfl rfl (by decide +kernel) hR
theorem wd_ml_X6_90 : Cond.methodLink RX6 90 yX6_itemOf ∈ GW := gw_at 661 (by decide +kernel) (by decide +kernel)
theorem wd_im_X6_itemOf : Cond.instanceMethod yX6_itemOf ∈ GW := gw_at 663 (by decide +kernel) (by decide +kernel)
theorem wd_se_X6_itemOf : Cond.selects RX6 yX6_itemOf yX6_itemOf ∈ GW := gw_at 18 (by decide +kernel) (by decide +kernel)
theorem cv_X6_90 {k mc ms : Nat} (hg : ∀ w ∈ GW, w.before args s = true) (hR : k + 1 ≤ R.frames ∧ 8 + (3 + 11) + 32 * k ≤ R.locals) : CallW R s args RX6 RX6 90 yX6_itemOf cX6_itemOf 3 (some .int) (ww yX6_itemOf cX6_itemOf 3 (some .int)) { frames := k, cells := mc, slots := ms, locals := 32 * k } mc ms 2 := cwV 2 hg (gw_V wd_ml_X6_90 wd_im_X6_itemOf wd_se_X6_itemOf wd_in_X6 wd_co_X6_itemOf) rfl rfl rfl (by decide +kernel) hR
theorem wd_ml_X6_96 : Cond.methodLink RX6 96 yX6_common ∈ GW := gw_at 670 (by decide +kernel) (by decide +kernel)
theorem wd_im_X6_common : Cond.instanceMethod yX6_common ∈ GW := gw_at 672 (by decide +kernel) (by decide +kernel)
theorem wd_se_X6_common : Cond.selects RX6 yX6_common yX6_common ∈ GW := gw_at 19 (by decide +kernel) (by decide +kernel)
theorem cv_X6_96 {k mc ms : Nat} (hg : ∀ w ∈ GW, w.before args s = true) (hR : k + 1 ≤ R.frames ∧ 8 + (5 + 11) + 32 * k ≤ R.locals) : CallW R s args RX6 RX6 96 yX6_common cX6_common 5 (some .int) (ww yX6_common cX6_common 5 (some .int)) { frames := k, cells := mc, slots := ms, locals := 32 * k } mc ms 3 := cwV 3 hg (gw_V wd_ml_X6_96 wd_im_X6_common wd_se_X6_common wd_in_X6 wd_co_X6_common) rfl rfl rfl (by decide +kernel) hR
theorem wd_ml_X6_104 : Cond.methodLink RX6 104 yX6_source ∈ GW := gw_at 705 (by decide +kernel) (by decide +kernel)
theorem wd_im_X6_source : Cond.instanceMethod yX6_source ∈ GW := gw_at 707 (by decide +kernel) (by decide +kernel)
theorem wd_se_X6_source : Cond.selects RX6 yX6_source yX6_source ∈ GW := gw_at 21 (by decide +kernel) (by decide +kernel)
theorem cv_X6_104 {k mc ms : Nat} (hg : ∀ w ∈ GW, w.before args s = true) (hR : k + 1 ≤ R.frames ∧ 8 + (3 + 11) + 32 * k ≤ R.locals) : CallW R s args RX6 RX6 104 yX6_source cX6_source 3 (some .int) (ww yX6_source cX6_source 3 (some .int)) { frames := k, cells := mc, slots := ms, locals := 32 * k } mc ms 2 := cwV 2 hg (gw_V wd_ml_X6_104 wd_im_X6_source wd_se_X6_source wd_in_X6 wd_co_X6_source) rfl rfl rfl (by decide +kernel) hR
theorem wd_ml_X6_109 : Cond.methodLink RX6 109 yX6_formPitch ∈ GW := gw_at 701 (by decide +kernel) (by decide +kernel)
theorem wd_im_X6_formPitch : Cond.instanceMethod yX6_formPitch ∈ GW := gw_at 703 (by decide +kernel) (by decide +kernel)
theorem wd_se_X6_formPitch : Cond.selects RX6 yX6_formPitch yX6_formPitch ∈ GW := gw_at 20 (by decide +kernel) (by decide +kernel)
theorem cv_X6_109 {k mc ms : Nat} (hg : ∀ w ∈ GW, w.before args s = true) (hR : k + 1 ≤ R.frames ∧ 8 + (4 + 11) + 32 * k ≤ R.locals) : CallW R s args RX6 RX6 109 yX6_formPitch cX6_formPitch 4 (some .int) (ww yX6_formPitch cX6_formPitch 4 (some .int)) { frames := k, cells := mc, slots := ms, locals := 32 * k } mc ms 2 := cwV 2 hg (gw_V wd_ml_X6_109 wd_im_X6_formPitch wd_se_X6_formPitch wd_in_X6 wd_co_X6_formPitch) rfl rfl rfl (by decide +kernel) hR
theorem wd_ml_X6_114 : Cond.methodLink RX6 114 yX6_goes ∈ GW := gw_at 714 (by decide +kernel) (by decide +kernel)
theorem wd_im_X6_goes : Cond.instanceMethod yX6_goes ∈ GW := gw_at 716 (by decide +kernel) (by decide +kernel)
theorem wd_se_X6_goes : Cond.selects RX6 yX6_goes yX6_goes ∈ GW := gw_at 22 (by decide +kernel) (by decide +kernel)
theorem cv_X6_114 {k mc ms : Nat} (hg : ∀ w ∈ GW, w.before args s = true) (hR : k + 1 ≤ R.frames ∧ 8 + (4 + 11) + 32 * k ≤ R.locals) : CallW R s args RX6 RX6 114 yX6_goes cX6_goes 4 (some .boolean) (ww yX6_goes cX6_goes 4 (some .boolean)) { frames := k, cells := mc, slots := ms, locals := 32 * k } mc ms 1 := cwV 1 hg (gw_V wd_ml_X6_114 wd_im_X6_goes wd_se_X6_goes wd_in_X6 wd_co_X6_goes) rfl rfl rfl (by decide +kernel) hR
theorem wd_ml_X6_119 : Cond.methodLink RX6 119 yX6_answerPitch ∈ GW := gw_at 723 (by decide +kernel) (by decide +kernel)
theorem wd_im_X6_answerPitch : Cond.instanceMethod yX6_answerPitch ∈ GW := gw_at 725 (by decide +kernel) (by decide +kernel)
theorem wd_se_X6_answerPitch : Cond.selects RX6 yX6_answerPitch yX6_answerPitch ∈ GW := gw_at 23 (by decide +kernel) (by decide +kernel)
theorem cv_X6_119 {k mc ms : Nat} (hg : ∀ w ∈ GW, w.before args s = true) (hR : k + 1 ≤ R.frames ∧ 8 + (6 + 11) + 32 * k ≤ R.locals) : CallW R s args RX6 RX6 119 yX6_answerPitch cX6_answerPitch 6 (some .int) (ww yX6_answerPitch cX6_answerPitch 6 (some .int)) { frames := k, cells := mc, slots := ms, locals := 32 * k } mc ms 3 := cwV 3 hg (gw_V wd_ml_X6_119 wd_im_X6_answerPitch wd_se_X6_answerPitch wd_in_X6 wd_co_X6_answerPitch) rfl rfl rfl (by decide +kernel) hR
theorem wd_ml_X6_126 : Cond.methodLink RX6 126 yX6_costOf ∈ GW := gw_at 741 (by decide +kernel) (by decide +kernel)
theorem wd_im_X6_costOf : Cond.instanceMethod yX6_costOf ∈ GW := gw_at 743 (by decide +kernel) (by decide +kernel)
theorem wd_se_X6_costOf : Cond.selects RX6 yX6_costOf yX6_costOf ∈ GW := gw_at 24 (by decide +kernel) (by decide +kernel)
theorem cv_X6_126 {k mc ms : Nat} (hg : ∀ w ∈ GW, w.before args s = true) (hR : k + 1 ≤ R.frames ∧ 8 + (8 + 11) + 32 * k ≤ R.locals) : CallW R s args RX6 RX6 126 yX6_costOf cX6_costOf 8 (some .int) (ww yX6_costOf cX6_costOf 8 (some .int)) { frames := k, cells := mc, slots := ms, locals := 32 * k } mc ms 4 := cwV 4 hg (gw_V wd_ml_X6_126 wd_im_X6_costOf wd_se_X6_costOf wd_in_X6 wd_co_X6_costOf) rfl rfl rfl (by decide +kernel) hR
end CLS
end
section
/-! the layer between the kit's rows and the walks: rooms by depth, three kinds of contract, their calls -/
abbrev rr (k c s : Nat) : Room := { frames := k, cells := c, slots := s, locals := 32 * k }
abbrev tI (cI : ClassId) : List (ClassId × FieldType) := [(cI, .int)]
abbrev oI (cI : ClassId) (n : Nat) (f : Nat → Int32) : va_E := .inl (cI, n, .inl f)
/-! numbers: a bit as an int, nI against 0, a long compare -/
def bI (P : Prop) [Decidable P] : Int32 := if P then 1 else 0
theorem bI_t {P : Prop} [Decidable P] (h : P) : (1 : Int32) = bI P := (if_pos h).symm
theorem bI_f {P : Prop} [Decidable P] (h : ¬ P) : (0 : Int32) = bI P := (if_neg h).symm
theorem bI_1 {P : Prop} [Decidable P] (h : P) : nI 1 = bI P := (if_pos h).symm
theorem bI_0 {P : Prop} [Decidable P] (h : ¬ P) : nI 0 = bI P := (if_neg h).symm
theorem bI_z {P : Prop} [Decidable P] : bI P = 0 ↔ ¬ P := by
  unfold bI; split
  · rename_i h; exact ⟨fun e => absurd e (by decide), fun e => absurd h e⟩
  · rename_i h; exact ⟨fun _ => h, fun _ => rfl⟩
theorem bI_nz {P : Prop} [Decidable P] : ¬ bI P = 0 ↔ P := by
  rw [bI_z]; exact ⟨fun h => Decidable.byContradiction h, fun h n => n h⟩
theorem bI_nar (P : Prop) [Decidable P] : narrow .boolean (.int (bI P)) = .int (bI P) := by
  unfold bI; split <;> rfl
theorem bI_if {P Q : Prop} [Decidable P] [Decidable Q] (h : P ↔ Q) : bI P = bI Q := by
  unfold bI; simp only [h]
theorem nz_eq {a : Nat} (h : a < 2 ^ 31) : nI a = 0 ↔ a = 0 := by
  rw [← nI_0]; exact nI_eq h (by decide)
theorem nz_lt {a : Nat} (h : a < 2 ^ 31) : nI a < 0 ↔ False := ⟨fun q => nI_pos h q, False.elim⟩
theorem nz_ge {a : Nat} (h : a < 2 ^ 31) : 0 ≤ nI a ↔ True := ⟨fun _ => trivial, fun _ => nI_pos' h⟩
theorem nz_gt {a : Nat} (h : a < 2 ^ 31) : 0 < nI a ↔ 0 < a := by
  have := nI_ltI (a := 0) (b := a) (by decide) h
  rw [nI_0] at this; exact this
theorem nz_le {a : Nat} (h : a < 2 ^ 31) : nI a ≤ 0 ↔ a = 0 := by
  have := nI_leI (a := a) (b := 0) h (by decide)
  rw [nI_0] at this; rw [this]; omega
theorem lc_cases (x y : Int64) : (y < x ∧ lg_cmp x y = 1) ∨ (x = y ∧ lg_cmp x y = 0) ∨ (x < y ∧ lg_cmp x y = -1) := by
  by_cases h1 : y < x
  · exact Or.inl ⟨h1, by simp [lg_cmp, h1]⟩
  · by_cases h2 : x = y
    · exact Or.inr (Or.inl ⟨h2, by subst h2; simp [lg_cmp]⟩)
    · have h3 : x < y := by
        rw [Int64.lt_iff_toInt_lt] at h1 ⊢
        have : x.toInt ≠ y.toInt := fun q => h2 (Int64.toInt_inj.mp q)
        omega
      exact Or.inr (Or.inr ⟨h3, by simp [lg_cmp, h1, h2]⟩)
theorem lc_ex {x y : Int64} : ¬ (y < x ∧ x = y) ∧ ¬ (x < y ∧ y < x) ∧ ¬ (x < y ∧ x = y) := by
  refine ⟨fun h => ?_, fun h => ?_, fun h => ?_⟩
  · obtain ⟨h1, rfl⟩ := h; rw [Int64.lt_iff_toInt_lt] at h1; omega
  · rw [Int64.lt_iff_toInt_lt, Int64.lt_iff_toInt_lt] at h; omega
  · obtain ⟨h1, rfl⟩ := h; rw [Int64.lt_iff_toInt_lt] at h1; omega
theorem lc_eq {x y : Int64} : lg_cmp x y = 0 ↔ x = y := by
  obtain ⟨e1, e2, e3⟩ := lc_ex (x := x) (y := y)
  rcases lc_cases x y with ⟨h, e⟩ | ⟨h, e⟩ | ⟨h, e⟩ <;> rw [e]
  · exact ⟨fun q => absurd q (by decide), fun q => absurd ⟨h, q⟩ e1⟩
  · exact ⟨fun _ => h, fun _ => rfl⟩
  · exact ⟨fun q => absurd q (by decide), fun q => absurd ⟨h, q⟩ e3⟩
theorem lc_lt {x y : Int64} : lg_cmp x y < 0 ↔ x < y := by
  obtain ⟨e1, e2, e3⟩ := lc_ex (x := x) (y := y)
  rcases lc_cases x y with ⟨h, e⟩ | ⟨h, e⟩ | ⟨h, e⟩ <;> rw [e]
  · exact ⟨fun q => absurd q (by decide), fun q => absurd ⟨q, h⟩ e2⟩
  · exact ⟨fun q => absurd q (by decide), fun q => absurd ⟨q, h⟩ e3⟩
  · exact ⟨fun _ => h, fun _ => by decide⟩
theorem lc_gt {x y : Int64} : 0 < lg_cmp x y ↔ y < x := by
  obtain ⟨e1, e2, e3⟩ := lc_ex (x := x) (y := y)
  rcases lc_cases x y with ⟨h, e⟩ | ⟨h, e⟩ | ⟨h, e⟩ <;> rw [e]
  · exact ⟨fun _ => h, fun _ => by decide⟩
  · exact ⟨fun q => absurd q (by decide), fun q => absurd ⟨q, h⟩ e1⟩
  · exact ⟨fun q => absurd q (by decide), fun q => absurd ⟨h, q⟩ e2⟩
theorem lc_le {x y : Int64} : lg_cmp x y ≤ 0 ↔ x ≤ y := by
  have h1 : lg_cmp x y ≤ 0 ↔ ¬ 0 < lg_cmp x y := by rw [Int32.le_iff_toInt_le, Int32.lt_iff_toInt_lt]; omega
  have h2 : x ≤ y ↔ ¬ y < x := by rw [Int64.le_iff_toInt_le, Int64.lt_iff_toInt_lt]; omega
  rw [h1, h2, lc_gt]
theorem lc_ge {x y : Int64} : 0 ≤ lg_cmp x y ↔ y ≤ x := by
  have h1 : 0 ≤ lg_cmp x y ↔ ¬ lg_cmp x y < 0 := by rw [Int32.le_iff_toInt_le, Int32.lt_iff_toInt_lt]; omega
  have h2 : y ≤ x ↔ ¬ x < y := by rw [Int64.le_iff_toInt_le, Int64.lt_iff_toInt_lt]; omega
  rw [h1, h2, lc_lt]
section BA
variable {p : Program} {l : Launch} {e : Env} {R : Room} {s : State} {m : MethodId} {args : Array Value} {below : List Frame} {meth : Method} {c : Code} {H : Heap} {locs : List Loc} {cells slots : Nat} {Q : State → Prop}
variable {cc : ByteArray} {pc : Nat} {ls : Array Slot} {rest st : List Value} {D : va_G} {A : Nat → Prop} {a : Nat} {tys : List (ClassId × FieldType)} {ws : va_W} {H0 : Heap}
theorem lv_asi {x y : Int32} (h : x = y) (k : W p l e R s m args below meth c H locs cells slots Q (F0 m pc ls (.int y :: rest))) : W p l e R s m args below meth c H locs cells slots Q (F0 m pc ls (.int x :: rest)) := by rw [h]; exact k
theorem lv_asl {x y : Int64} (h : x = y) (k : W p l e R s m args below meth c H locs cells slots Q (F0 m pc ls (.long y :: rest))) : W p l e R s m args below meth c H locs cells slots Q (F0 m pc ls (.long x :: rest)) := by rw [h]; exact k
theorem ald (hx : p.tables.exec = Jvm.exec) (hb : c.code = cc) (hK : va_K D vwCl tys s) (hP : va_P D vwCl ws H) (q0 : Nat) {cA : ClassId} {n : Nat} {f : Nat → Int32} (ha : ws[q0]? = some (a, oI cA n f)) (ht : tys[0]? = some (cA, .int)) {i : Nat} (hi : i < n) (hdg : decode cc pc = .ok (.iaload, 1))
    (kk : W p l e R s m args below meth c H locs cells slots Q (F0 m (pc + 1) ls (.int (f i) :: rest))) (hn : n < 2 ^ 31 := by decide) : W p l e R s m args below meth c H locs cells slots Q (F0 m pc ls (.int (nI i) :: .ref a :: rest)) := by
  refine va_iald hx hb hK hP q0 0 ha ht (vp_in_nI hi hn) hdg ?_
  rw [nI_clamp (by omega)]
  exact kk
theorem ast (hx : p.tables.exec = Jvm.exec) (hb : c.code = cc) (hK : va_K D vwCl tys s) (hP : va_P D vwCl ws H) (hD : va_D A ws) (hS : va_S A H0 H locs) (q0 : Nat) {cA : ClassId} {n : Nat} {f : Nat → Int32} (ha : ws[q0]? = some (a, oI cA n f)) (ht : tys[0]? = some (cA, .int)) {i : Nat} {x : Int32} (hi : i < n) (hdg : decode cc pc = .ok (.iastore, 1))
    (kk : ∀ (H1 : Heap) (locs1 : List Loc), va_P D vwCl (ws.set q0 (a, oI cA n (upd f i x))) H1 → va_D A (ws.set q0 (a, oI cA n (upd f i x))) → va_S A H0 H1 locs1 → W p l e R s m args below meth c H1 locs1 cells slots Q (F0 m (pc + 1) ls rest)) (hn : n < 2 ^ 31 := by decide) : W p l e R s m args below meth c H locs cells slots Q (F0 m pc ls (.int x :: .int (nI i) :: .ref a :: rest)) := by
  refine va_iast hx hb hK hP hD hS q0 0 ha ht (vp_in_nI hi hn) hdg ?_
  rw [nI_clamp (by omega)]
  exact kk
end BA
theorem sub_of_map {ws ws' : va_W} {is : List Nat} (hs : is.map (fun i => ws[i]?) = ws'.map some) : is.filterMap (fun i => ws[i]?) = ws' := by
  have : is.filterMap (fun i => ws[i]?) = (is.map (fun i => ws[i]?)).filterMap id := by rw [List.filterMap_map]; rfl
  rw [this, hs, List.filterMap_map]
  simp
/-- a method that only reads: its answer is v -/
def Cp (l : Launch) (y : MethodName) (cc : ByteArray) (n : Nat) (r : Option FieldType) (k : Nat) (D : va_G) (tys : List (ClassId × FieldType)) (av : List Value) (W0 : va_W) (v : Int32) : Prop :=
  Met l y (ww y cc n r) (rr k 0 0) (va_Pc av (fun U => va_P D vwCl W0 U.heap ∧ va_K D vwCl tys U)) (va_Qi (fun x (_ : Unit) => x = v) (fun _ _ => True) (fun _ => False)) 0 0 (fun _ => False)
/-- a method that writes its own cells W0, void -/
def Cv (l : Launch) (y : MethodName) (cc : ByteArray) (n : Nat) (k mc ms : Nat) (D : va_G) (tys : List (ClassId × FieldType)) (av : List Value) (W0 : va_W) {S : Type} (post : S → Prop) (W1 : S → va_W) : Prop :=
  ∀ sz : Nat, Met l y (ww y cc n none) (rr k mc ms) (va_Pc av (fun U => U.heap.size = sz ∧ va_P D vwCl W0 U.heap ∧ va_K D vwCl tys U ∧ va_D (fun _ => True) W0)) (va_Qv post (fun u t => va_P D vwCl (W1 u) t.heap ∧ va_K D vwCl tys t ∧ va_D (va_A W0 sz) (W1 u)) (va_A W0 sz)) mc ms (va_A W0 sz)
/-- a method that writes its own cells W0, with an answer -/
def Ci (l : Launch) (y : MethodName) (cc : ByteArray) (n : Nat) (r : Option FieldType) (k mc ms : Nat) (D : va_G) (tys : List (ClassId × FieldType)) (av : List Value) (W0 : va_W) {S : Type} (post : Int32 → S → Prop) (W1 : S → va_W) : Prop :=
  ∀ sz : Nat, Met l y (ww y cc n r) (rr k mc ms) (va_Pc av (fun U => U.heap.size = sz ∧ va_P D vwCl W0 U.heap ∧ va_K D vwCl tys U ∧ va_D (fun _ => True) W0)) (va_Qi post (fun u t => va_P D vwCl (W1 u) t.heap ∧ va_K D vwCl tys t ∧ va_D (va_A W0 sz) (W1 u)) (va_A W0 sz)) mc ms (va_A W0 sz)
theorem Cp.of {l : Launch} {y : MethodName} {cc : ByteArray} {n : Nat} {rt : FieldType} {k : Nat} {D : va_G} {tys : List (ClassId × FieldType)} {av : List Value} {W0 : va_W} {v : Int32} {own : String} {lv : List (Nat × Value)} (hy : plainFor y = true) (ho : y.cls = own) (hn : (lg_sl av).length ≤ n) (hlv : lv_args 0 av = lv) (hnar : narrow rt (.int v) = .int v)
    (body : ∀ (p : Program) (e : Env) (s : State) (m : MethodId) (args : Array Value) (below : List Frame) (meth : Method) (c : Code) (Q : State → Prop), CallFix p m c cc n s args GW own → va_K D vwCl tys s → va_P D vwCl W0 s.heap →
      (∀ (H : Heap) (locs : List Loc) (pc : Nat) (ls : Array Slot) (x : Int32), va_S (fun _ => False) s.heap H locs → decode cc pc = .ok (.ireturn, 1) → x = v → W p l e (rr k 0 0) s m args below meth c H locs 0 0 Q (F0 m pc ls [.int x])) →
      ∀ ls, lv_has ls n lv → W p l e (rr k 0 0) s m args below meth c s.heap [] 0 0 Q (F0 m 0 ls [])) : Cp l y cc n (some rt) k D tys av W0 v := by
  refine va_MetF (cc := cc) (maxL := n) (ret := some rt) hy rfl ?_
  intro p e s m args below meth c s₁ B hml hv
  obtain ⟨rfl, hP, hK⟩ := hv
  have hts := atoms_spec (ws := ww y cc n (some rt)) B.pre
  have hown : s.vm.findClass own = some m.cls := ho ▸ findClass_of_methodNamed B.named
  have hl := lv_entry av (n := n) hn
  rw [lg_entry_eq]
  generalize (lg_sl av ++ List.replicate (n - (lg_sl av).length) Slot.unset).toArray = ls at hl ⊢
  rw [hlv] at hl
  have hlk := B.notSynchronized
  exact body p e s m _ below meth c _ ⟨B.exec, B.bytes, hml, hown, fun w hw => hts w (List.mem_cons_of_mem _ hw)⟩ hK hP (fun H locs pc ls x hS hd hxv => by subst hxv; exact W.zret (v := x) B.exec B.bytes B.returns hnar (fun t ht hW => ⟨⟨x, (), rfl, rfl, trivial⟩, hS.F ht⟩) hS.2.2 hd) ls hl
theorem Cv.of {l : Launch} {y : MethodName} {cc : ByteArray} {n : Nat} {k mc ms : Nat} {D : va_G} {tys : List (ClassId × FieldType)} {av : List Value} {W0 : va_W} {S : Type} {post : S → Prop} {W1 : S → va_W} {own : String} {lv : List (Nat × Value)} (hy : plainName y.cls = true) (ho : y.cls = own) (hn : (lg_sl av).length ≤ n) (hlv : lv_args 0 av = lv)
    (body : ∀ (p : Program) (e : Env) (s : State) (m : MethodId) (args : Array Value) (below : List Frame) (meth : Method) (c : Code) (Q : State → Prop) (A : Nat → Prop), CallFix p m c cc n s args GW own → meth.name = y.name → va_K D vwCl tys s → va_P D vwCl W0 s.heap → va_D A W0 → (∀ q, s.heap.size ≤ q → A q) →
      (∀ (H : Heap) (locs : List Loc) (pc : Nat) (ls : Array Slot) (u : S), post u → va_P D vwCl (W1 u) H → va_D A (W1 u) → va_S A s.heap H locs → decode cc pc = .ok (.return_, 1) → W p l e (rr k mc ms) s m args below meth c H locs mc ms Q (F0 m pc ls [])) →
      ∀ ls, lv_has ls n lv → W p l e (rr k mc ms) s m args below meth c s.heap [] 0 0 Q (F0 m 0 ls [])) : Cv l y cc n k mc ms D tys av W0 post W1 := by
  intro sz
  refine Met.ofW (cc := cc) (maxL := n) (ret := none) hy rfl ?_
  intro p e s m args below meth c s₁ B hml hv
  obtain ⟨rfl, hsz, hP, hK, hD0⟩ := hv
  subst hsz
  have hts := atoms_spec (ws := ww y cc n none) B.pre
  have hown : s.vm.findClass own = some m.cls := ho ▸ findClass_of_methodNamed B.named
  have hl := lv_entry av (n := n) hn
  rw [lg_entry_eq]
  generalize (lg_sl av ++ List.replicate (n - (lg_sl av).length) Slot.unset).toArray = ls at hl ⊢
  rw [hlv] at hl
  have hlk := B.notSynchronized
  exact body p e s m _ below meth c _ (va_A W0 s.heap.size) ⟨B.exec, B.bytes, hml, hown, fun w hw => hts w (List.mem_cons_of_mem _ hw)⟩ (name_of_methodNamed B.named B.method).1 hK hP (hD0.self (sz := s.heap.size)) (fun q h => Or.inr h) (fun H locs pc ls u hu hP1 hD1 hS hd => W.vret B.exec B.bytes B.returns (fun t ht hW => ⟨⟨u, rfl, hu, by rw [ht]; exact hP1, va_K.moved hW.alike hK, hD1⟩, hS.F ht⟩) hS.2.2 hd) ls hl
theorem Ci.of {l : Launch} {y : MethodName} {cc : ByteArray} {n : Nat} {rt : FieldType} {k mc ms : Nat} {D : va_G} {tys : List (ClassId × FieldType)} {av : List Value} {W0 : va_W} {S : Type} {post : Int32 → S → Prop} {W1 : S → va_W} {own : String} {lv : List (Nat × Value)} (hy : plainName y.cls = true) (ho : y.cls = own) (hn : (lg_sl av).length ≤ n) (hlv : lv_args 0 av = lv) (hnar : ∀ x u, post x u → narrow rt (.int x) = .int x)
    (body : ∀ (p : Program) (e : Env) (s : State) (m : MethodId) (args : Array Value) (below : List Frame) (meth : Method) (c : Code) (Q : State → Prop) (A : Nat → Prop), CallFix p m c cc n s args GW own → va_K D vwCl tys s → va_P D vwCl W0 s.heap → va_D A W0 → (∀ q, s.heap.size ≤ q → A q) →
      (∀ (H : Heap) (locs : List Loc) (pc : Nat) (ls : Array Slot) (x : Int32) (u : S), post x u → va_P D vwCl (W1 u) H → va_D A (W1 u) → va_S A s.heap H locs → decode cc pc = .ok (.ireturn, 1) → W p l e (rr k mc ms) s m args below meth c H locs mc ms Q (F0 m pc ls [.int x])) →
      ∀ ls, lv_has ls n lv → W p l e (rr k mc ms) s m args below meth c s.heap [] 0 0 Q (F0 m 0 ls [])) : Ci l y cc n (some rt) k mc ms D tys av W0 post W1 := by
  intro sz
  refine Met.ofW (cc := cc) (maxL := n) (ret := some rt) hy rfl ?_
  intro p e s m args below meth c s₁ B hml hv
  obtain ⟨rfl, hsz, hP, hK, hD0⟩ := hv
  subst hsz
  have hts := atoms_spec (ws := ww y cc n (some rt)) B.pre
  have hown : s.vm.findClass own = some m.cls := ho ▸ findClass_of_methodNamed B.named
  have hl := lv_entry av (n := n) hn
  rw [lg_entry_eq]
  generalize (lg_sl av ++ List.replicate (n - (lg_sl av).length) Slot.unset).toArray = ls at hl ⊢
  rw [hlv] at hl
  have hlk := B.notSynchronized
  exact body p e s m _ below meth c _ (va_A W0 s.heap.size) ⟨B.exec, B.bytes, hml, hown, fun w hw => hts w (List.mem_cons_of_mem _ hw)⟩ hK hP (hD0.self (sz := s.heap.size)) (fun q h => Or.inr h) (fun H locs pc ls x u hu hP1 hD1 hS hd => W.zret (v := x) B.exec B.bytes B.returns (hnar x u hu) (fun t ht hW => ⟨⟨x, u, rfl, hu, by rw [ht]; exact hP1, va_K.moved hW.alike hK, hD1⟩, hS.F ht⟩) hS.2.2 hd) ls hl
section CALLS
variable {p : Program} {l : Launch} {e : Env} {R : Room} {s : State} {m : MethodId} {args : Array Value} {below : List Frame} {meth : Method} {c : Code} {H : Heap} {locs : List Loc} {cells slots : Nat} {Q : State → Prop}
variable {cc bytes : ByteArray} {pc nL maxL ix nn k mc ms : Nat} {ls : Array Slot} {rest st As av : List Value} {D : va_G} {A : Nat → Prop} {b : Nat} {tys : List (ClassId × FieldType)} {ws wc wr : va_W} {H0 : Heap} {own C : String} {y : MethodName} {ret : Option FieldType}
/-- what a call that only reads leaves -/
theorem kept_all {H1 : Heap} (hP : va_P D vwCl ws H) (hk : ∀ q : Nat, q < H.size → ¬ (fun _ : Nat => False) q → H1[q]? = H[q]?) : va_P D vwCl ws H1 := hP.kept fun i q hq => hk q.1 (hP i q hq).lt (fun h => h)
theorem Cp.callV {v : Int32} (cw : CallW R s args own C ix y bytes maxL ret (ww y bytes maxL ret) (rr k 0 0) 0 0 nn) (hM : Cp l y bytes maxL ret k D tys (.ref b :: As) wc v) (cx : CallFix p m c cc nL s args GW own) (hK : va_K D vwCl tys s) (hP : va_P D vwCl ws H) (is : List Nat) (hs : is.filterMap (fun i => ws[i]?) = wc) {rq rc : Nat} {fs : List Value} {qc : vw_C} (hr1 : wc[rq]? = some (b, .inr (rc, fs))) (hr2 : vwCl[rc]? = some qc) (hr3 : qc.1 = C) (hS : va_S A H0 H locs) (hn : As.length = nn) (hls : ls.size = nL) (hst : st = As.reverse ++ .ref b :: rest) (hW : (rest.map fun v => v.category).sum ≤ 8) (hdg : decode cc pc = .ok (.invokevirtual ix, 3)) (hf : cells ≤ R.cells ∧ slots ≤ R.slots)
    (kk : ∀ (H1 : Heap) (locs1 : List Loc), va_P D vwCl ws H1 → va_S A H0 H1 locs1 → W p l e R s m args below meth c H1 locs1 cells slots Q (F0 m (pc + 3) ls (.int v :: rest))) : W p l e R s m args below meth c H locs cells slots Q (F0 m pc ls st) := by
  have hPc := hP.sub is hs
  refine va_calli (va_runV (As := As) (rest := rest) cx hM cw ⟨fun a U g mk q => ⟨q.1, q.2.1, va_K.moved (u := U) (U := U.calling g mk a) (Vm.Alike.refl U.vm) q.2.2⟩, ?_, fun U hU hW => ⟨rfl, by rw [hU]; exact hPc, va_K.moved hW.alike hK⟩⟩ rfl hn hls hst (lv_room hW) hdg hf) hS (fun q _ h => h.elim) (fun q h => h.elim) (fun r u t H1 locs1 ht hvm hw hB hz1 hk1 hS1 => ?_)
  · obtain ⟨cell, h1, h2, h3⟩ := va_recv hK hPc hr2 hr1
    exact ⟨cell, h1, h2, hr3 ▸ h3⟩
  · subst hw
    exact kk H1 locs1 (kept_all hP hk1) hS1
theorem Cp.callS {v : Int32} (cw : CallB R s args own ix y bytes maxL ret (ww y bytes maxL ret) (rr k 0 0) 0 0 nn ∧ (Cond.static y).before args s = true) (hM : Cp l y bytes maxL ret k D tys As wc v) (cx : CallFix p m c cc nL s args GW own) (hK : va_K D vwCl tys s) (hP : va_P D vwCl ws H) (is : List Nat) (hs : is.filterMap (fun i => ws[i]?) = wc) (hS : va_S A H0 H locs) (hn : As.length = nn) (hls : ls.size = nL) (hst : st = As.reverse ++ rest) (hW : (rest.map fun v => v.category).sum ≤ 8) (hdg : decode cc pc = .ok (.invokestatic ix, 3)) (hf : cells ≤ R.cells ∧ slots ≤ R.slots)
    (kk : ∀ (H1 : Heap) (locs1 : List Loc), va_P D vwCl ws H1 → va_S A H0 H1 locs1 → W p l e R s m args below meth c H1 locs1 cells slots Q (F0 m (pc + 3) ls (.int v :: rest))) : W p l e R s m args below meth c H locs cells slots Q (F0 m pc ls st) := by
  have hPc := hP.sub is hs
  refine va_calli (va_runS (As := As) (rest := rest) cx hM cw ⟨fun a U g mk q => ⟨q.1, q.2.1, va_K.moved (u := U) (U := U.calling g mk a) (Vm.Alike.refl U.vm) q.2.2⟩, fun U hU hW => ⟨rfl, by rw [hU]; exact hPc, va_K.moved hW.alike hK⟩⟩ rfl hn hls hst (lv_room hW) hdg hf) hS (fun q _ h => h.elim) (fun q h => h.elim) (fun r u t H1 locs1 ht hvm hw hB hz1 hk1 hS1 => ?_)
  subst hw
  exact kk H1 locs1 (kept_all hP hk1) hS1
/-- behind a call that writes: the rest and the callee's cells, put into the order wn -/
theorem join_to {S : Type} {W1 wn : S → va_W} {u : S} {H1 : Heap} (hP : va_P D vwCl ws H) (hD : va_D A ws) (isC isR isN : List Nat) (hC : isC.map (fun i => ws[i]?) = wc.map some) (hR : isR.map (fun i => ws[i]?) = wr.map some) (hn : va_nd isR = true) (hdis : ∀ i ∈ isR, i ∉ isC) (hN : isN.map (fun i => (wr ++ W1 u)[i]?) = (wn u).map some) (hnn : va_nd isN = true)
    (hk : ∀ q : Nat, q < H.size → ¬ va_A wc H.size q → H1[q]? = H[q]?) (hF : ∀ q, va_A wc H.size q → A q) (hP1 : va_P D vwCl (W1 u) H1) (hD1 : va_D (va_A wc H.size) (W1 u)) : va_P D vwCl (wn u) H1 ∧ va_D A (wn u) := by
  obtain ⟨h1, h2⟩ := va_join hP hD isC isR hC hR hn hdis hk hF hP1 hD1
  exact ⟨h1.sub isN (sub_of_map hN), h2.sub isN hnn hN⟩
theorem Cv.callV {S : Type} {post : S → Prop} {W1 wn : S → va_W} (cw : CallW R s args own C ix y bytes maxL none (ww y bytes maxL none) (rr k mc ms) mc ms nn) (hM : Cv l y bytes maxL k mc ms D tys (.ref b :: As) wc post W1) (cx : CallFix p m c cc nL s args GW own) (hK : va_K D vwCl tys s) (hP : va_P D vwCl ws H) (hD : va_D A ws) (hA : ∀ q, H0.size ≤ q → A q) (isC isR isN : List Nat) (hC : isC.map (fun i => ws[i]?) = wc.map some) (hRr : isR.map (fun i => ws[i]?) = wr.map some) (hnd : va_nd isC = true ∧ va_nd isR = true ∧ va_nd isN = true ∧ ∀ i ∈ isR, i ∉ isC) (hN : ∀ u, isN.map (fun i => (wr ++ W1 u)[i]?) = (wn u).map some) {rq rc : Nat} {fs : List Value} {qc : vw_C} (hr1 : wc[rq]? = some (b, .inr (rc, fs))) (hr2 : vwCl[rc]? = some qc) (hr3 : qc.1 = C) (hS : va_S A H0 H locs) (hn : As.length = nn) (hls : ls.size = nL) (hst : st = As.reverse ++ .ref b :: rest) (hW : (rest.map fun v => v.category).sum ≤ 8) (hdg : decode cc pc = .ok (.invokevirtual ix, 3)) (hf : cells + mc ≤ R.cells ∧ slots + ms ≤ R.slots)
    (kk : ∀ (H1 : Heap) (locs1 : List Loc) (u : S), post u → va_P D vwCl (wn u) H1 → va_D A (wn u) → va_S A H0 H1 locs1 → W p l e R s m args below meth c H1 locs1 (cells + mc) (slots + ms) Q (F0 m (pc + 3) ls rest)) : W p l e R s m args below meth c H locs cells slots Q (F0 m pc ls st) := by
  have hPc := hP.sub isC (sub_of_map hC)
  have hDc := hD.sub isC hnd.1 hC
  have hFc := va_free (wc := wc) hD hS hA isC hC
  refine va_callv (va_runV (As := As) (rest := rest) cx (hM H.size) cw ⟨fun a U g mk q => ⟨q.1, q.2.1, q.2.2.1, va_K.moved (u := U) (U := U.calling g mk a) (Vm.Alike.refl U.vm) q.2.2.2.1, q.2.2.2.2⟩, ?_, fun U hU hW => ⟨rfl, by rw [hU], by rw [hU]; exact hPc, va_K.moved hW.alike hK, hDc.weaken (fun _ _ _ _ => trivial)⟩⟩ rfl hn hls hst (lv_room hW) hdg hf) hS (fun q _ h => hFc q h) hFc (fun u t H1 locs1 ht hvm hw hB hz1 hk1 hS1 => ?_)
  · obtain ⟨cell, h1, h2, h3⟩ := va_recv hK hPc hr2 hr1
    exact ⟨cell, h1, h2, hr3 ▸ h3⟩
  · obtain ⟨hP1, -, hD1⟩ := hB
    rw [ht] at hP1
    obtain ⟨h1, h2⟩ := join_to hP hD isC isR isN hC hRr hnd.2.1 hnd.2.2.2 (hN u) hnd.2.2.1 hk1 hFc hP1 hD1
    exact kk H1 locs1 u hw h1 h2 hS1
theorem Ci.callV {S : Type} {post : Int32 → S → Prop} {W1 wn : S → va_W} (cw : CallW R s args own C ix y bytes maxL ret (ww y bytes maxL ret) (rr k mc ms) mc ms nn) (hM : Ci l y bytes maxL ret k mc ms D tys (.ref b :: As) wc post W1) (cx : CallFix p m c cc nL s args GW own) (hK : va_K D vwCl tys s) (hP : va_P D vwCl ws H) (hD : va_D A ws) (hA : ∀ q, H0.size ≤ q → A q) (isC isR isN : List Nat) (hC : isC.map (fun i => ws[i]?) = wc.map some) (hRr : isR.map (fun i => ws[i]?) = wr.map some) (hnd : va_nd isC = true ∧ va_nd isR = true ∧ va_nd isN = true ∧ ∀ i ∈ isR, i ∉ isC) (hN : ∀ u, isN.map (fun i => (wr ++ W1 u)[i]?) = (wn u).map some) {rq rc : Nat} {fs : List Value} {qc : vw_C} (hr1 : wc[rq]? = some (b, .inr (rc, fs))) (hr2 : vwCl[rc]? = some qc) (hr3 : qc.1 = C) (hS : va_S A H0 H locs) (hn : As.length = nn) (hls : ls.size = nL) (hst : st = As.reverse ++ .ref b :: rest) (hW : (rest.map fun v => v.category).sum ≤ 8) (hdg : decode cc pc = .ok (.invokevirtual ix, 3)) (hf : cells + mc ≤ R.cells ∧ slots + ms ≤ R.slots)
    (kk : ∀ (H1 : Heap) (locs1 : List Loc) (r : Int32) (u : S), post r u → va_P D vwCl (wn u) H1 → va_D A (wn u) → va_S A H0 H1 locs1 → W p l e R s m args below meth c H1 locs1 (cells + mc) (slots + ms) Q (F0 m (pc + 3) ls (.int r :: rest))) : W p l e R s m args below meth c H locs cells slots Q (F0 m pc ls st) := by
  have hPc := hP.sub isC (sub_of_map hC)
  have hDc := hD.sub isC hnd.1 hC
  have hFc := va_free (wc := wc) hD hS hA isC hC
  refine va_calli (va_runV (As := As) (rest := rest) cx (hM H.size) cw ⟨fun a U g mk q => ⟨q.1, q.2.1, q.2.2.1, va_K.moved (u := U) (U := U.calling g mk a) (Vm.Alike.refl U.vm) q.2.2.2.1, q.2.2.2.2⟩, ?_, fun U hU hW => ⟨rfl, by rw [hU], by rw [hU]; exact hPc, va_K.moved hW.alike hK, hDc.weaken (fun _ _ _ _ => trivial)⟩⟩ rfl hn hls hst (lv_room hW) hdg hf) hS (fun q _ h => hFc q h) hFc (fun r u t H1 locs1 ht hvm hw hB hz1 hk1 hS1 => ?_)
  · obtain ⟨cell, h1, h2, h3⟩ := va_recv hK hPc hr2 hr1
    exact ⟨cell, h1, h2, hr3 ▸ h3⟩
  · obtain ⟨hP1, -, hD1⟩ := hB
    rw [ht] at hP1
    obtain ⟨h1, h2⟩ := join_to hP hD isC isR isN hC hRr hnd.2.1 hnd.2.2.2 (hN u) hnd.2.2.1 hk1 hFc hP1 hD1
    exact kk H1 locs1 r u hw h1 h2 hS1
end CALLS
end
section
/-! the words in which both sides are said -/
def ff_run (f : Nat → Int32) : Nat → Nat → Nat → Nat
  | _, _, 0 => 0
  | i, j, k + 1 => if f i = f j then ff_run f (i + 1) (j + 1) k + 1 else 0
theorem ff_run_le (f : Nat → Int32) : ∀ k i j : Nat, ff_run f i j k ≤ k
  | 0, _, _ => Nat.le_refl 0
  | k + 1, i, j => by
    unfold ff_run
    split
    · exact Nat.succ_le_succ (ff_run_le f k (i + 1) (j + 1))
    · exact Nat.zero_le _
theorem ff_run_eq (f : Nat → Int32) : ∀ r k i j : Nat, r ≤ k → (∀ t, t < r → f (i + t) = f (j + t)) → (r = k ∨ ¬ f (i + r) = f (j + r)) → ff_run f i j k = r
  | 0, 0, _, _, _, _, _ => rfl
  | 0, k + 1, i, j, _, _, h => by
    rcases h with h | h
    · exact absurd h (by omega)
    · exact if_neg h
  | r + 1, 0, _, _, h, _, _ => absurd h (by omega)
  | r + 1, k + 1, i, j, h, he, hx => by
    have h0 : f i = f j := he 0 (by omega)
    unfold ff_run
    rw [if_pos h0, ff_run_eq f r k (i + 1) (j + 1) (by omega) (fun t ht => by have := he (t + 1) (by omega); rw [show i + 1 + t = i + (t + 1) by omega, show j + 1 + t = j + (t + 1) by omega]; exact this) (by
      rcases hx with hx | hx
      · exact Or.inl (by omega)
      · refine Or.inr ?_
        rw [show i + 1 + r = i + (r + 1) by omega, show j + 1 + r = j + (r + 1) by omega]
        exact hx)]
/-- how many numbers below k have p -/
def ff_ct (p : Nat → Bool) : Nat → Nat
  | 0 => 0
  | k + 1 => ff_ct p k + (if p k = true then 1 else 0)
theorem ff_ct_le (p : Nat → Bool) : ∀ k, ff_ct p k ≤ k
  | 0 => Nat.le_refl 0
  | k + 1 => by have := ff_ct_le p k; unfold ff_ct; split <;> omega
theorem ff_ct_t {p : Nat → Bool} {k : Nat} (h : p k = true) : ff_ct p (k + 1) = ff_ct p k + 1 := by
  show ff_ct p k + (if p k = true then 1 else 0) = _
  rw [if_pos h]
theorem ff_ct_f {p : Nat → Bool} {k : Nat} (h : ¬ p k = true) : ff_ct p (k + 1) = ff_ct p k := by
  show ff_ct p k + (if p k = true then 1 else 0) = _
  rw [if_neg h]; rfl
def ff_any (p : Nat → Bool) : Nat → Bool
  | 0 => false
  | k + 1 => ff_any p k || p k
theorem ff_any_iff (p : Nat → Bool) : ∀ n, ff_any p n = true ↔ ∃ t, t < n ∧ p t = true
  | 0 => ⟨fun h => (by simp [ff_any] at h), fun ⟨t, h, _⟩ => absurd h (Nat.not_lt_zero _)⟩
  | n + 1 => by
    show (ff_any p n || p n) = true ↔ _
    rw [Bool.or_eq_true, ff_any_iff p n]
    constructor
    · rintro (⟨t, h1, h2⟩ | h)
      · exact ⟨t, by omega, h2⟩
      · exact ⟨n, by omega, h⟩
    · rintro ⟨t, h1, h2⟩
      by_cases h : t = n
      · subst h; exact Or.inr h2
      · exact Or.inl ⟨t, by omega, h2⟩
/-- a row of m from j on came before, among n items -/
def ff_came (f : Nat → Int32) (n m j : Nat) : Bool := ff_any (fun t => decide (m ≤ ff_run f t j (n - j))) j
def ff_pas (f : Nat → Int32) (n m : Nat) : Nat := ff_ct (fun j => !ff_came f n m j) (n + 1 - m)
def ff_pl (f : Nat → Int32) (n : Nat) : Nat → Nat → Nat
  | _, 0 => n
  | p, k + 1 => if ff_run f 0 p (n - p) = n - p then p else ff_pl f n (p + 1) k
def ff_per (f : Nat → Int32) (n : Nat) : Nat := ff_pl f n 1 (n - 1)
def ff_same (f : Nat → Int32) (i j m : Nat) : Nat := ff_ct (fun t => decide (f (i + t) = f (j + t))) m
def ff_sg (x : Int32) : Int32 := if x = 0 then 0 else if x < 0 then -1 else 1
/-- item i of view v -/
def ff_it (P L : Nat → Int32) (v i : Nat) : Int32 := if v = 0 then P i else if v = 1 then P (i + 1) - P i else if v = 2 then ff_sg (P (i + 1) - P i) else if v = 3 then L i else P i * 1000 + L i
def ff_cnt (v n : Nat) : Nat := if v = 1 ∨ v = 2 then n - 1 else n
theorem ff_cnt_le (v n : Nat) : ff_cnt v n ≤ n := by unfold ff_cnt; split <;> omega
/-- the m of the repeat that begins at i, j; 0: none -/
def ff_rl (f : Nat → Int32) (n i j : Nat) : Nat := if 0 < i ∧ f (i - 1) = f (j - 1) then 0 else ff_run f i j (n - j)
theorem ff_sg_eq (x : Int32) : (x >>> ((nI 31) &&& 31)) ||| (Int32.toUInt32 (-x) >>> (Int32.toUInt32 (nI 31) &&& Int32.toUInt32 31)).toInt32 = ff_sg x := by
  have h1 := pk_shr x (nI 31 &&& 31) 31 (by decide)
  have h2 := pk_ushr (-x) (nI 31) 31 (by decide)
  have hlo := Int32.minValue_le_toInt x
  have hhi := Int32.toInt_lt x
  have hlo' : -2147483648 ≤ x.toInt := by simpa using hlo
  have hhi' : x.toInt < 2147483648 := by simpa using hhi
  generalize ha : x >>> (nI 31 &&& 31) = a at h1 ⊢
  generalize hb : (Int32.toUInt32 (-x) >>> (Int32.toUInt32 (nI 31) &&& Int32.toUInt32 31)).toInt32 = b at h2 ⊢
  unfold ff_sg
  by_cases hz : x = 0
  · subst hz
    rw [if_pos rfl, ← ha, ← hb]
    decide
  · rw [if_neg hz]
    by_cases hn : x < 0
    · rw [if_pos hn]
      have hn' : x.toInt < 0 := by simpa [Int32.lt_iff_toInt_lt] using hn
      have ea : a = -1 := by
        apply Int32.toInt_inj.mp
        rw [h1, Int.shiftRight_eq_div_pow]
        show x.toInt / ((2 ^ 31 : Nat) : Int) = -1
        have : ((2 ^ 31 : Nat) : Int) = 2147483648 := by decide
        rw [this]
        omega
      rw [ea]
      apply Int32.toBitVec_inj.mp
      rw [Int32.toBitVec_or]
      show BitVec.allOnes 32 ||| b.toBitVec = BitVec.allOnes 32
      exact BitVec.allOnes_or
    · rw [if_neg hn]
      have hn' : 0 < x.toInt := by
        have h0 : ¬ x.toInt < 0 := fun q => hn (by simpa [Int32.lt_iff_toInt_lt] using q)
        have h3 : x.toInt ≠ 0 := fun q => hz (Int32.toInt_inj.mp (by rw [q]; rfl))
        omega
      have ea : a = 0 := by
        apply Int32.toInt_inj.mp
        rw [h1, Int.shiftRight_eq_div_pow]
        show x.toInt / ((2 ^ 31 : Nat) : Int) = 0
        have : ((2 ^ 31 : Nat) : Int) = 2147483648 := by decide
        rw [this]
        omega
      have hxn : (x.toBitVec.toNat : Int) = x.toInt := by
        have : x.toInt = x.toBitVec.toInt := rfl
        rw [this, BitVec.toInt_eq_toNat_cond]
        split
        · rfl
        · rename_i hh
          have h4 : x.toInt = x.toBitVec.toInt := rfl
          rw [BitVec.toInt_eq_toNat_cond, if_neg hh] at h4
          have := x.toBitVec.isLt
          omega
      have eb : b = 1 := by
        apply Int32.toBitVec_inj.mp
        apply BitVec.eq_of_toNat_eq
        rw [h2]
        have h5 : (-x).toBitVec.toNat = 2 ^ 32 - x.toBitVec.toNat := by
          have : (-x).toBitVec = -x.toBitVec := rfl
          rw [this, BitVec.toNat_neg, Nat.mod_eq_of_lt]
          have := x.toBitVec.isLt
          omega
        rw [h5]
        have := x.toBitVec.isLt
        show (2 ^ 32 - x.toBitVec.toNat) / 2 ^ 31 = 1
        omega
      rw [ea, eb]
      decide
end
section
set_option maxHeartbeats 4000000 in
set_option maxRecDepth 100000 in
/-- Integer.signum -/
theorem k_signum (l : Launch) (D : va_G) (cI : ClassId) (W0 : va_W) (x : Int32) : Cp l yJ6_signum_0f7a4 cJ6_signum_0f7a4 1 (some .int) 0 D (tI cI) [.int x] W0 (ff_sg x) := by
  refine Cp.of (own := RJ6) (lv := [(0, .int x)]) (by decide +kernel) rfl (Nat.le_of_ble_eq_true rfl) rfl (vp_nar_int _) ?_
  intro p e s m args below meth c Q cx hK hP hret ls hl
  obtain ⟨hx, hb, hml, hown, hg⟩ := id cx
  have hS : va_S (fun _ => False) s.heap s.heap [] := va_S.rf
  refine lv_iload_n hx hb dJ6_signum_0f7a4_0 rfl (lv_at hl 0 rfl) ?_
  refine lv_bipush (v := nI 31) hx hb dJ6_signum_0f7a4_1 (by decide) ?_
  refine lv_ishr hx hb dJ6_signum_0f7a4_3 ?_
  refine lv_iload_n hx hb dJ6_signum_0f7a4_4 rfl (lv_at hl 0 rfl) ?_
  refine lv_ineg hx hb dJ6_signum_0f7a4_5 ?_
  refine lv_bipush (v := nI 31) hx hb dJ6_signum_0f7a4_6 (by decide) ?_
  refine lv_iushr hx hb dJ6_signum_0f7a4_8 rfl ?_
  refine lv_ior hx hb dJ6_signum_0f7a4_9 ?_
  exact hret _ _ 10 _ _ hS dJ6_signum_0f7a4_10 (ff_sg_eq x)

set_option maxHeartbeats 4000000 in
set_option maxRecDepth 100000 in
/-- NoteRow.stepTo -/
theorem k_X1_stepTo (l : Launch) (D : va_G) (cI : ClassId) (a0 a1 a2 n : Nat) (P L : Nat → Int32) (i : Nat) (h1 : 1 ≤ i) (h2 : i < 60) : Cp l yX1_stepTo cX1_stepTo 2 (some .int) 0 D (tI cI) [.ref a0, .int (nI i)] [(a0, .inr (1, [.ref a1, .ref a2, .int (nI n)])), (a1, oI cI 60 P), (a2, oI cI 60 L)] (P i - P (i - 1)) := by
  refine Cp.of (own := RX1) (lv := [(0, .ref a0), (1, .int (nI i))]) (by decide +kernel) rfl (Nat.le_of_ble_eq_true rfl) rfl (vp_nar_int _) ?_
  intro p e s m args below meth c Q cx hK hP hret ls hl
  obtain ⟨hx, hb, hml, hown, hg⟩ := id cx
  have hS : va_S (fun _ => False) s.heap s.heap [] := va_S.rf
  refine lv_aload_n hx hb dX1_stepTo_0 rfl (lv_at hl 0 rfl) ?_
  refine gf_X1_9 hx hb hg hown hK hP 0 rfl rfl dX1_stepTo_1 ?_
  refine lv_iload_n hx hb dX1_stepTo_4 rfl (lv_at hl 1 rfl) ?_
  refine ald hx hb hK hP 1 rfl rfl (by omega) dX1_stepTo_5 ?_
  refine lv_aload_n hx hb dX1_stepTo_6 rfl (lv_at hl 0 rfl) ?_
  refine gf_X1_9 hx hb hg hown hK hP 0 rfl rfl dX1_stepTo_7 ?_
  refine lv_iload_n hx hb dX1_stepTo_10 rfl (lv_at hl 1 rfl) ?_
  refine lv_iconst (v := nI 1) hx hb dX1_stepTo_11 (by decide) ?_
  refine lv_isub hx hb dX1_stepTo_12 ?_
  refine lv_asi (pk_sub (by omega)) ?_
  refine ald hx hb hK hP 1 rfl rfl (by omega) dX1_stepTo_13 ?_
  refine lv_isub hx hb dX1_stepTo_14 ?_
  exact hret _ _ 15 _ _ hS dX1_stepTo_15 (rfl)

set_option maxHeartbeats 4000000 in
set_option maxRecDepth 100000 in
/-- ItemRow.countIn -/
theorem k_X0_countIn (l : Launch) (D : va_G) (cI : ClassId) (a0 a1 a2 n : Nat) (P L : Nat → Int32) (v : Nat) (hv : v ≤ 4) (hn : n ≤ 60) : Cp l yX0_countIn cX0_countIn 3 (some .int) 0 D (tI cI) [.ref a0, .int (nI v)] [(a0, .inr (1, [.ref a1, .ref a2, .int (nI n)])), (a1, oI cI 60 P), (a2, oI cI 60 L)] (nI (ff_cnt v n)) := by
  refine Cp.of (own := RX0) (lv := [(0, .ref a0), (1, .int (nI v))]) (by decide +kernel) rfl (Nat.le_of_ble_eq_true rfl) rfl (vp_nar_int _) ?_
  intro p e s m args below meth c Q cx hK hP hret ls hl
  obtain ⟨hx, hb, hml, hown, hg⟩ := id cx
  have hS : va_S (fun _ => False) s.heap s.heap [] := va_S.rf
  refine lv_iload_n hx hb dX0_countIn_0 rfl (lv_at hl 1 rfl) ?_
  refine lv_iconst (v := nI 1) hx hb dX0_countIn_1 (by decide) ?_
  refine lv_icmp_eq (tgt := 10) hx hb dX0_countIn_2 (by decide) (fun c2 => ?_) (fun c2 => ?_)
  · have c2 := (nI_eq (by omega) (by omega)).mp c2
    refine lv_iconst (v := nI 1) hx hb dX0_countIn_10 (by decide) ?_
    refine lv_goto (tgt := 15) hx hb dX0_countIn_11 (by decide) ?_
    refine lv_istore_n (lv' := [(2, .int (nI 1)), (0, .ref a0), (1, .int (nI v))]) hx hb dX0_countIn_15 rfl hl (by decide) rfl (fun ls hl => ?_)
    refine lv_iload_n hx hb dX0_countIn_16 rfl (lv_at hl 0 rfl) ?_
    refine lv_if_eq (tgt := 36) hx hb dX0_countIn_17 (by decide) (fun h9 => absurd h9 (by decide)) (fun _ => ?_)
    refine lv_aload_n hx hb dX0_countIn_20 rfl (lv_at hl 1 rfl) ?_
    refine gf_X0_15 hx hb hg hown hK hP 0 rfl rfl dX0_countIn_21 ?_
    refine lv_if_le (tgt := 36) hx hb dX0_countIn_24 (by decide) (fun c24 => ?_) (fun c24 => ?_)
    · have c24 := (nz_le (by omega)).mp c24
      refine lv_aload_n hx hb dX0_countIn_36 rfl (lv_at hl 1 rfl) ?_
      refine gf_X0_15 hx hb hg hown hK hP 0 rfl rfl dX0_countIn_37 ?_
      exact hret _ _ 40 _ _ hS dX0_countIn_40 (by unfold ff_cnt; split <;> congr 1 <;> omega)
    · have c24 := mt (nz_le (by omega)).mpr c24
      refine lv_aload_n hx hb dX0_countIn_27 rfl (lv_at hl 1 rfl) ?_
      refine gf_X0_15 hx hb hg hown hK hP 0 rfl rfl dX0_countIn_28 ?_
      refine lv_iconst (v := nI 1) hx hb dX0_countIn_31 (by decide) ?_
      refine lv_isub hx hb dX0_countIn_32 ?_
      refine lv_asi (pk_sub (by omega)) ?_
      refine lv_goto (tgt := 40) hx hb dX0_countIn_33 (by decide) ?_
      exact hret _ _ 40 _ _ hS dX0_countIn_40 (by unfold ff_cnt; split <;> congr 1 <;> omega)
  · have c2 := mt (nI_eq (by omega) (by omega)).mpr c2
    refine lv_iload_n hx hb dX0_countIn_5 rfl (lv_at hl 1 rfl) ?_
    refine lv_iconst (v := nI 2) hx hb dX0_countIn_6 (by decide) ?_
    refine lv_icmp_ne (tgt := 14) hx hb dX0_countIn_7 (by decide) (fun c7 => ?_) (fun c7 => ?_)
    · have c7 := mt (nI_eq (by omega) (by omega)).mpr c7
      refine lv_iconst (v := nI 0) hx hb dX0_countIn_14 (by decide) ?_
      refine lv_istore_n (lv' := [(2, .int (nI 0)), (0, .ref a0), (1, .int (nI v))]) hx hb dX0_countIn_15 rfl hl (by decide) rfl (fun ls hl => ?_)
      refine lv_iload_n hx hb dX0_countIn_16 rfl (lv_at hl 0 rfl) ?_
      refine lv_if_eq (tgt := 36) hx hb dX0_countIn_17 (by decide) (fun _ => ?_) (fun h9 => absurd (by decide) h9)
      refine lv_aload_n hx hb dX0_countIn_36 rfl (lv_at hl 1 rfl) ?_
      refine gf_X0_15 hx hb hg hown hK hP 0 rfl rfl dX0_countIn_37 ?_
      exact hret _ _ 40 _ _ hS dX0_countIn_40 (by unfold ff_cnt; split <;> congr 1 <;> omega)
    · have c7 := (nI_eq (by omega) (by omega)).mp c7
      refine lv_iconst (v := nI 1) hx hb dX0_countIn_10 (by decide) ?_
      refine lv_goto (tgt := 15) hx hb dX0_countIn_11 (by decide) ?_
      refine lv_istore_n (lv' := [(2, .int (nI 1)), (0, .ref a0), (1, .int (nI v))]) hx hb dX0_countIn_15 rfl hl (by decide) rfl (fun ls hl => ?_)
      refine lv_iload_n hx hb dX0_countIn_16 rfl (lv_at hl 0 rfl) ?_
      refine lv_if_eq (tgt := 36) hx hb dX0_countIn_17 (by decide) (fun h9 => absurd h9 (by decide)) (fun _ => ?_)
      refine lv_aload_n hx hb dX0_countIn_20 rfl (lv_at hl 1 rfl) ?_
      refine gf_X0_15 hx hb hg hown hK hP 0 rfl rfl dX0_countIn_21 ?_
      refine lv_if_le (tgt := 36) hx hb dX0_countIn_24 (by decide) (fun c24 => ?_) (fun c24 => ?_)
      · have c24 := (nz_le (by omega)).mp c24
        refine lv_aload_n hx hb dX0_countIn_36 rfl (lv_at hl 1 rfl) ?_
        refine gf_X0_15 hx hb hg hown hK hP 0 rfl rfl dX0_countIn_37 ?_
        exact hret _ _ 40 _ _ hS dX0_countIn_40 (by unfold ff_cnt; split <;> congr 1 <;> omega)
      · have c24 := mt (nz_le (by omega)).mpr c24
        refine lv_aload_n hx hb dX0_countIn_27 rfl (lv_at hl 1 rfl) ?_
        refine gf_X0_15 hx hb hg hown hK hP 0 rfl rfl dX0_countIn_28 ?_
        refine lv_iconst (v := nI 1) hx hb dX0_countIn_31 (by decide) ?_
        refine lv_isub hx hb dX0_countIn_32 ?_
        refine lv_asi (pk_sub (by omega)) ?_
        refine lv_goto (tgt := 40) hx hb dX0_countIn_33 (by decide) ?_
        exact hret _ _ 40 _ _ hS dX0_countIn_40 (by unfold ff_cnt; split <;> congr 1 <;> omega)

set_option maxHeartbeats 4000000 in
set_option maxRecDepth 100000 in
/-- ItemRow.valueIn -/
theorem k_X0_valueIn (l : Launch) (D : va_G) (cI : ClassId) (a0 a1 a2 n : Nat) (P L : Nat → Int32) (v i : Nat) (hv : v ≤ 4) (hi : i + 1 < 60 ∨ (i < 60 ∧ ¬ v = 1 ∧ ¬ v = 2)) : Cp l yX0_valueIn cX0_valueIn 3 (some .int) 1 D (tI cI) [.ref a0, .int (nI v), .int (nI i)] [(a0, .inr (1, [.ref a1, .ref a2, .int (nI n)])), (a1, oI cI 60 P), (a2, oI cI 60 L)] (ff_it P L v i) := by
  refine Cp.of (own := RX0) (lv := [(0, .ref a0), (1, .int (nI v)), (2, .int (nI i))]) (by decide +kernel) rfl (Nat.le_of_ble_eq_true rfl) rfl (vp_nar_int _) ?_
  intro p e s m args below meth c Q cx hK hP hret ls hl
  obtain ⟨hx, hb, hml, hown, hg⟩ := id cx
  have hS : va_S (fun _ => False) s.heap s.heap [] := va_S.rf
  refine lv_iload_n hx hb dX0_valueIn_0 rfl (lv_at hl 1 rfl) ?_
  rcases (show v = 0 ∨ v = 1 ∨ v = 2 ∨ v = 3 ∨ v = 4 by omega) with rfl | rfl | rfl | rfl | rfl
  · refine lv_tableIn (off := 31) (tgt := 32) hx hb dX0_valueIn_1 (by decide) (by decide) (by decide) (by decide) ?_
    refine lv_aload_n hx hb dX0_valueIn_32 rfl (lv_at hl 0 rfl) ?_
    refine gf_X0_21 hx hb hg hown hK hP 0 rfl rfl dX0_valueIn_33 ?_
    refine lv_iload_n hx hb dX0_valueIn_36 rfl (lv_at hl 2 rfl) ?_
    refine ald hx hb hK hP 1 rfl rfl (by omega) dX0_valueIn_37 ?_
    exact hret _ _ 38 _ _ hS dX0_valueIn_38 (rfl)
  · refine lv_tableIn (off := 38) (tgt := 39) hx hb dX0_valueIn_1 (by decide) (by decide) (by decide) (by decide) ?_
    refine lv_aload_n hx hb dX0_valueIn_39 rfl (lv_at hl 0 rfl) ?_
    refine lv_iload_n hx hb dX0_valueIn_40 rfl (lv_at hl 2 rfl) ?_
    refine lv_iconst (v := nI 1) hx hb dX0_valueIn_41 (by decide) ?_
    refine lv_iadd hx hb dX0_valueIn_42 ?_
    refine lv_asi (nI_add _ _) ?_
    refine Cp.callV (As := [.int (nI (i + 1))]) (rest := []) (cv_X0_24 hg ⟨Nat.le_of_ble_eq_true rfl, Nat.le_of_ble_eq_true rfl⟩) (k_X1_stepTo l D cI a0 a1 a2 n P L (i + 1) (by omega) (by omega)) cx hK hP [0, 1, 2] rfl (rq := 0) rfl rfl rfl hS rfl hl.1 rfl (Nat.le_of_ble_eq_true rfl) dX0_valueIn_43 ⟨Nat.zero_le _, Nat.zero_le _⟩ (fun H locs hP hS => ?_)
    exact hret _ _ 46 _ _ hS dX0_valueIn_46 (rfl)
  · refine lv_tableIn (off := 46) (tgt := 47) hx hb dX0_valueIn_1 (by decide) (by decide) (by decide) (by decide) ?_
    refine lv_aload_n hx hb dX0_valueIn_47 rfl (lv_at hl 0 rfl) ?_
    refine lv_iload_n hx hb dX0_valueIn_48 rfl (lv_at hl 2 rfl) ?_
    refine lv_iconst (v := nI 1) hx hb dX0_valueIn_49 (by decide) ?_
    refine lv_iadd hx hb dX0_valueIn_50 ?_
    refine lv_asi (nI_add _ _) ?_
    refine Cp.callV (As := [.int (nI (i + 1))]) (rest := []) (cv_X0_24 hg ⟨Nat.le_of_ble_eq_true rfl, Nat.le_of_ble_eq_true rfl⟩) (k_X1_stepTo l D cI a0 a1 a2 n P L (i + 1) (by omega) (by omega)) cx hK hP [0, 1, 2] rfl (rq := 0) rfl rfl rfl hS rfl hl.1 rfl (Nat.le_of_ble_eq_true rfl) dX0_valueIn_51 ⟨Nat.zero_le _, Nat.zero_le _⟩ (fun H locs hP hS => ?_)
    refine Cp.callS (As := [.int ((P (i + 1) - P (i + 1 - 1)))]) (rest := []) (cv_X0_28 hg ⟨Nat.le_of_ble_eq_true rfl, Nat.le_of_ble_eq_true rfl⟩) (k_signum l D cI [] _) cx hK hP [] rfl hS rfl hl.1 rfl (Nat.le_of_ble_eq_true rfl) dX0_valueIn_54 ⟨Nat.zero_le _, Nat.zero_le _⟩ (fun H locs hP hS => ?_)
    exact hret _ _ 57 _ _ hS dX0_valueIn_57 (rfl)
  · refine lv_tableIn (off := 57) (tgt := 58) hx hb dX0_valueIn_1 (by decide) (by decide) (by decide) (by decide) ?_
    refine lv_aload_n hx hb dX0_valueIn_58 rfl (lv_at hl 0 rfl) ?_
    refine gf_X0_33 hx hb hg hown hK hP 0 rfl rfl dX0_valueIn_59 ?_
    refine lv_iload_n hx hb dX0_valueIn_62 rfl (lv_at hl 2 rfl) ?_
    refine ald hx hb hK hP 2 rfl rfl (by omega) dX0_valueIn_63 ?_
    exact hret _ _ 64 _ _ hS dX0_valueIn_64 (rfl)
  · refine lv_tableOut (tgt := 65) hx hb dX0_valueIn_1 (Or.inr (by decide)) (by decide) ?_
    refine lv_aload_n hx hb dX0_valueIn_65 rfl (lv_at hl 0 rfl) ?_
    refine gf_X0_21 hx hb hg hown hK hP 0 rfl rfl dX0_valueIn_66 ?_
    refine lv_iload_n hx hb dX0_valueIn_69 rfl (lv_at hl 2 rfl) ?_
    refine ald hx hb hK hP 1 rfl rfl (by omega) dX0_valueIn_70 ?_
    refine lv_sipush (v := 1000) hx hb dX0_valueIn_71 (by decide) ?_
    refine lv_imul hx hb dX0_valueIn_74 ?_
    refine lv_aload_n hx hb dX0_valueIn_75 rfl (lv_at hl 0 rfl) ?_
    refine gf_X0_33 hx hb hg hown hK hP 0 rfl rfl dX0_valueIn_76 ?_
    refine lv_iload_n hx hb dX0_valueIn_79 rfl (lv_at hl 2 rfl) ?_
    refine ald hx hb hK hP 2 rfl rfl (by omega) dX0_valueIn_80 ?_
    refine lv_iadd hx hb dX0_valueIn_81 ?_
    exact hret _ _ 82 _ _ hS dX0_valueIn_82 (rfl)

set_option maxHeartbeats 4000000 in
set_option maxRecDepth 100000 in
/-- ItemRow.sameRun -/
theorem k_X0_sameRun (l : Launch) (D : va_G) (cI : ClassId) (a0 a1 n : Nat) (f : Nat → Int32) (i j : Nat) (hij : i < j) (hj : j ≤ n) (hn : n ≤ 60) : Cp l yX0_sameRun cX0_sameRun 4 (some .int) 0 D (tI cI) [.ref a0, .int (nI i), .int (nI j)] [(a0, .inr (0, [.ref a1, .int (nI n)])), (a1, oI cI 60 f)] (nI (ff_run f i j (n - j))) := by
  refine Cp.of (own := RX0) (lv := [(0, .ref a0), (1, .int (nI i)), (2, .int (nI j))]) (by decide +kernel) rfl (Nat.le_of_ble_eq_true rfl) rfl (vp_nar_int _) ?_
  intro p e s m args below meth c Q cx hK hP hret ls hl
  obtain ⟨hx, hb, hml, hown, hg⟩ := id cx
  have hS : va_S (fun _ => False) s.heap s.heap [] := va_S.rf
  refine lv_iconst (v := nI 0) hx hb dX0_sameRun_0 (by decide) ?_
  refine lv_istore_n (lv' := [(3, .int (nI 0)), (0, .ref a0), (1, .int (nI i)), (2, .int (nI j))]) hx hb dX0_sameRun_1 rfl hl (by decide) rfl (fun ls hl => ?_)
  have lp_2 : ∀ (k : Nat) (r : Nat) (H : Heap) (locs : List Loc) (ls : Array Slot), (r ≤ n - j) → (∀ t, t < r → f (i + t) = f (j + t)) → (n - j - r < k) → va_P D vwCl [(a0, .inr (0, [.ref a1, .int (nI n)])), (a1, oI cI 60 f)] H → va_S (fun _ => False) s.heap H locs → lv_has ls 4 [(0, .ref a0), (1, .int (nI i)), (2, .int (nI j)), (3, .int (nI r))] → W p l e (rr 0 0 0) s m args below meth c H locs 0 0 Q (F0 m 2 ls []) := by
    intro k
    induction k with
    | zero =>
      intro r H locs ls hr he hk
      exact absurd hk (Nat.not_lt_zero _)
    | succ k ih_2 =>
      intro r H locs ls hr he hk hP hS hl
      refine lv_iload_n hx hb dX0_sameRun_2 rfl (lv_at hl 2 rfl) ?_
      refine lv_iload_n hx hb dX0_sameRun_3 rfl (lv_at hl 3 rfl) ?_
      refine lv_iadd hx hb dX0_sameRun_4 ?_
      refine lv_asi (nI_add _ _) ?_
      refine lv_aload_n hx hb dX0_sameRun_5 rfl (lv_at hl 0 rfl) ?_
      refine gf_X0_40 hx hb hg hown hK hP 0 rfl rfl dX0_sameRun_6 ?_
      refine lv_icmp_ge (tgt := 37) hx hb dX0_sameRun_9 (by decide) (fun c9 => ?_) (fun c9 => ?_)
      · have c9 := (nI_leI (by omega) (by omega)).mp c9
        refine lv_iload_n hx hb dX0_sameRun_37 rfl (lv_at hl 3 rfl) ?_
        exact hret _ _ 38 _ _ hS dX0_sameRun_38 (by rw [ff_run_eq f r (n - j) i j hr he (by first | exact Or.inl (by omega) | exact Or.inr c28)])
      · have c9 := mt (nI_leI (by omega) (by omega)).mpr c9
        refine lv_aload_n hx hb dX0_sameRun_12 rfl (lv_at hl 0 rfl) ?_
        refine gf_X0_9 hx hb hg hown hK hP 0 rfl rfl dX0_sameRun_13 ?_
        refine lv_iload_n hx hb dX0_sameRun_16 rfl (lv_at hl 1 rfl) ?_
        refine lv_iload_n hx hb dX0_sameRun_17 rfl (lv_at hl 3 rfl) ?_
        refine lv_iadd hx hb dX0_sameRun_18 ?_
        refine lv_asi (nI_add _ _) ?_
        refine ald hx hb hK hP 1 rfl rfl (by omega) dX0_sameRun_19 ?_
        refine lv_aload_n hx hb dX0_sameRun_20 rfl (lv_at hl 0 rfl) ?_
        refine gf_X0_9 hx hb hg hown hK hP 0 rfl rfl dX0_sameRun_21 ?_
        refine lv_iload_n hx hb dX0_sameRun_24 rfl (lv_at hl 2 rfl) ?_
        refine lv_iload_n hx hb dX0_sameRun_25 rfl (lv_at hl 3 rfl) ?_
        refine lv_iadd hx hb dX0_sameRun_26 ?_
        refine lv_asi (nI_add _ _) ?_
        refine ald hx hb hK hP 1 rfl rfl (by omega) dX0_sameRun_27 ?_
        refine lv_icmp_ne (tgt := 37) hx hb dX0_sameRun_28 (by decide) (fun c28 => ?_) (fun c28 => ?_)
        · skip
          refine lv_iload_n hx hb dX0_sameRun_37 rfl (lv_at hl 3 rfl) ?_
          exact hret _ _ 38 _ _ hS dX0_sameRun_38 (by rw [ff_run_eq f r (n - j) i j hr he (by first | exact Or.inl (by omega) | exact Or.inr c28)])
        · skip
          refine lv_iinc (v := nI (r + 1)) (lv' := [(3, .int (nI (r + 1))), (0, .ref a0), (1, .int (nI i)), (2, .int (nI j))]) hx hb dX0_sameRun_31 hl (k := 3) rfl (nI_1 _) (by decide) rfl (fun ls hl => ?_)
          refine lv_goto (tgt := 2) hx hb dX0_sameRun_34 (by decide) ?_
          exact ih_2 (r + 1) _ _ _ (by omega) (fun t ht => by rcases Nat.lt_succ_iff_lt_or_eq.mp ht with h | h <;> first | exact he t h | (subst h; exact c28)) (by omega) hP hS (lv_sub hl [1, 2, 3, 0] rfl)
  exact lp_2 (_ + 1) (0) _ _ _ (Nat.zero_le _) (fun t h => absurd h (Nat.not_lt_zero _)) (Nat.lt_succ_self _) hP hS (lv_sub hl [1, 2, 3, 0] rfl)

set_option maxHeartbeats 4000000 in
set_option maxRecDepth 100000 in
/-- ItemRow.cameBefore -/
theorem k_X0_cameBefore (l : Launch) (D : va_G) (cI : ClassId) (a0 a1 n : Nat) (f : Nat → Int32) (j q : Nat) (hj : j ≤ n) (hn : n ≤ 60) (hq : q ≤ 60) : Cp l yX0_cameBefore cX0_cameBefore 4 (some .boolean) 1 D (tI cI) [.ref a0, .int (nI j), .int (nI q)] [(a0, .inr (0, [.ref a1, .int (nI n)])), (a1, oI cI 60 f)] (bI (ff_came f n q j = true)) := by
  refine Cp.of (own := RX0) (lv := [(0, .ref a0), (1, .int (nI j)), (2, .int (nI q))]) (by decide +kernel) rfl (Nat.le_of_ble_eq_true rfl) rfl (bI_nar _) ?_
  intro p e s m args below meth c Q cx hK hP hret ls hl
  obtain ⟨hx, hb, hml, hown, hg⟩ := id cx
  have hS : va_S (fun _ => False) s.heap s.heap [] := va_S.rf
  refine lv_iconst (v := nI 0) hx hb dX0_cameBefore_0 (by decide) ?_
  refine lv_istore_n (lv' := [(3, .int (nI 0)), (0, .ref a0), (1, .int (nI j)), (2, .int (nI q))]) hx hb dX0_cameBefore_1 rfl hl (by decide) rfl (fun ls hl => ?_)
  have lp_2 : ∀ (k : Nat) (i : Nat) (H : Heap) (locs : List Loc) (ls : Array Slot), (i ≤ j) → (∀ t, t < i → ¬ q ≤ ff_run f t j (n - j)) → (j - i < k) → va_P D vwCl [(a0, .inr (0, [.ref a1, .int (nI n)])), (a1, oI cI 60 f)] H → va_S (fun _ => False) s.heap H locs → lv_has ls 4 [(0, .ref a0), (1, .int (nI j)), (2, .int (nI q)), (3, .int (nI i))] → W p l e (rr 1 0 0) s m args below meth c H locs 0 0 Q (F0 m 2 ls []) := by
    intro k
    induction k with
    | zero =>
      intro i H locs ls hi he hk
      exact absurd hk (Nat.not_lt_zero _)
    | succ k ih_2 =>
      intro i H locs ls hi he hk hP hS hl
      refine lv_iload_n hx hb dX0_cameBefore_2 rfl (lv_at hl 3 rfl) ?_
      refine lv_iload_n hx hb dX0_cameBefore_3 rfl (lv_at hl 1 rfl) ?_
      refine lv_icmp_ge (tgt := 25) hx hb dX0_cameBefore_4 (by decide) (fun c4 => ?_) (fun c4 => ?_)
      · have c4 := (nI_leI (by omega) (by omega)).mp c4
        refine lv_iconst (v := nI 0) hx hb dX0_cameBefore_25 (by decide) ?_
        exact hret _ _ 26 _ _ hS dX0_cameBefore_26 (bI_0 (fun h => by obtain ⟨t, h1, h2⟩ := (ff_any_iff _ _).mp h; exact he t (by omega) (of_decide_eq_true h2)))
      · have c4 := mt (nI_leI (by omega) (by omega)).mpr c4
        refine lv_aload_n hx hb dX0_cameBefore_7 rfl (lv_at hl 0 rfl) ?_
        refine lv_iload_n hx hb dX0_cameBefore_8 rfl (lv_at hl 3 rfl) ?_
        refine lv_iload_n hx hb dX0_cameBefore_9 rfl (lv_at hl 1 rfl) ?_
        refine Cp.callV (As := [.int (nI i), .int (nI j)]) (rest := []) (cv_X0_49 hg ⟨Nat.le_of_ble_eq_true rfl, Nat.le_of_ble_eq_true rfl⟩) (k_X0_sameRun l D cI a0 a1 n f i j (by omega) hj hn) cx hK hP [0, 1] rfl (rq := 0) rfl rfl rfl hS rfl hl.1 rfl (Nat.le_of_ble_eq_true rfl) dX0_cameBefore_10 ⟨Nat.zero_le _, Nat.zero_le _⟩ (fun H locs hP hS => ?_)
        have hrl := ff_run_le f (n - j) i j
        refine lv_iload_n hx hb dX0_cameBefore_13 rfl (lv_at hl 2 rfl) ?_
        refine lv_icmp_lt (tgt := 19) hx hb dX0_cameBefore_14 (by decide) (fun c14 => ?_) (fun c14 => ?_)
        · have c14 := (nI_ltI (by omega) (by omega)).mp c14
          refine lv_iinc (v := nI (i + 1)) (lv' := [(3, .int (nI (i + 1))), (0, .ref a0), (1, .int (nI j)), (2, .int (nI q))]) hx hb dX0_cameBefore_19 hl (k := 3) rfl (nI_1 _) (by decide) rfl (fun ls hl => ?_)
          refine lv_goto (tgt := 2) hx hb dX0_cameBefore_22 (by decide) ?_
          exact ih_2 (i + 1) _ _ _ (by omega) (fun t ht => by rcases Nat.lt_succ_iff_lt_or_eq.mp ht with h | h <;> first | exact he t h | (subst h; omega)) (by omega) hP hS (lv_sub hl [1, 2, 3, 0] rfl)
        · have c14 := mt (nI_ltI (by omega) (by omega)).mpr c14
          refine lv_iconst (v := nI 1) hx hb dX0_cameBefore_17 (by decide) ?_
          exact hret _ _ 18 _ _ hS dX0_cameBefore_18 (bI_1 ((ff_any_iff _ _).mpr ⟨i, by omega, decide_eq_true (by omega)⟩))
  exact lp_2 (_ + 1) (0) _ _ _ (Nat.zero_le _) (fun t h => absurd h (Nat.not_lt_zero _)) (Nat.lt_succ_self _) hP hS (lv_sub hl [1, 2, 3, 0] rfl)

set_option maxHeartbeats 4000000 in
set_option maxRecDepth 100000 in
/-- ItemRow.countDifferent -/
theorem k_X0_countDifferent (l : Launch) (D : va_G) (cI : ClassId) (a0 a1 n : Nat) (f : Nat → Int32) (q : Nat) (hn : n ≤ 60) (hq1 : 1 ≤ q) (hq : q ≤ 60) : Cp l yX0_countDifferent cX0_countDifferent 4 (some .int) 2 D (tI cI) [.ref a0, .int (nI q)] [(a0, .inr (0, [.ref a1, .int (nI n)])), (a1, oI cI 60 f)] (nI (ff_pas f n q)) := by
  refine Cp.of (own := RX0) (lv := [(0, .ref a0), (1, .int (nI q))]) (by decide +kernel) rfl (Nat.le_of_ble_eq_true rfl) rfl (vp_nar_int _) ?_
  intro p e s m args below meth c Q cx hK hP hret ls hl
  obtain ⟨hx, hb, hml, hown, hg⟩ := id cx
  have hS : va_S (fun _ => False) s.heap s.heap [] := va_S.rf
  refine lv_iconst (v := nI 0) hx hb dX0_countDifferent_0 (by decide) ?_
  refine lv_istore_n (lv' := [(2, .int (nI 0)), (0, .ref a0), (1, .int (nI q))]) hx hb dX0_countDifferent_1 rfl hl (by decide) rfl (fun ls hl => ?_)
  refine lv_iconst (v := nI 0) hx hb dX0_countDifferent_2 (by decide) ?_
  refine lv_istore_n (lv' := [(3, .int (nI 0)), (2, .int (nI 0)), (0, .ref a0), (1, .int (nI q))]) hx hb dX0_countDifferent_3 rfl hl (by decide) rfl (fun ls hl => ?_)
  have lp_4 : ∀ (k : Nat) (j : Nat) (H : Heap) (locs : List Loc) (ls : Array Slot), (j ≤ n + 1 - q) → (n + 1 - q - j < k) → va_P D vwCl [(a0, .inr (0, [.ref a1, .int (nI n)])), (a1, oI cI 60 f)] H → va_S (fun _ => False) s.heap H locs → lv_has ls 4 [(0, .ref a0), (1, .int (nI q)), (2, .int (nI (ff_ct (fun j => !ff_came f n q j) j))), (3, .int (nI j))] → W p l e (rr 2 0 0) s m args below meth c H locs 0 0 Q (F0 m 4 ls []) := by
    intro k
    induction k with
    | zero =>
      intro j H locs ls hj hk
      exact absurd hk (Nat.not_lt_zero _)
    | succ k ih_4 =>
      intro j H locs ls hj hk hP hS hl
      refine lv_iload_n hx hb dX0_countDifferent_4 rfl (lv_at hl 3 rfl) ?_
      refine lv_iload_n hx hb dX0_countDifferent_5 rfl (lv_at hl 1 rfl) ?_
      refine lv_iadd hx hb dX0_countDifferent_6 ?_
      refine lv_asi (nI_add _ _) ?_
      refine lv_aload_n hx hb dX0_countDifferent_7 rfl (lv_at hl 0 rfl) ?_
      refine gf_X0_40 hx hb hg hown hK hP 0 rfl rfl dX0_countDifferent_8 ?_
      refine lv_icmp_gt (tgt := 32) hx hb dX0_countDifferent_11 (by decide) (fun c11 => ?_) (fun c11 => ?_)
      · have c11 := (nI_ltI (by omega) (by omega)).mp c11
        refine lv_iload_n hx hb dX0_countDifferent_32 rfl (lv_at hl 2 rfl) ?_
        exact hret _ _ 33 _ _ hS dX0_countDifferent_33 (by rw [ff_pas, show n + 1 - q = j by omega])
      · have c11 := mt (nI_ltI (by omega) (by omega)).mpr c11
        refine lv_aload_n hx hb dX0_countDifferent_14 rfl (lv_at hl 0 rfl) ?_
        refine lv_iload_n hx hb dX0_countDifferent_15 rfl (lv_at hl 3 rfl) ?_
        refine lv_iload_n hx hb dX0_countDifferent_16 rfl (lv_at hl 1 rfl) ?_
        refine Cp.callV (As := [.int (nI j), .int (nI q)]) (rest := []) (cv_X0_45 hg ⟨Nat.le_of_ble_eq_true rfl, Nat.le_of_ble_eq_true rfl⟩) (k_X0_cameBefore l D cI a0 a1 n f j q (by omega) hn hq) cx hK hP [0, 1] rfl (rq := 0) rfl rfl rfl hS rfl hl.1 rfl (Nat.le_of_ble_eq_true rfl) dX0_countDifferent_17 ⟨Nat.zero_le _, Nat.zero_le _⟩ (fun H locs hP hS => ?_)
        refine lv_if_ne (tgt := 26) hx hb dX0_countDifferent_20 (by decide) (fun c20 => ?_) (fun c20 => ?_)
        · have c20 := bI_nz.mp c20
          have e9 : ff_ct (fun j => !ff_came f n q j) (j + 1) = ff_ct (fun j => !ff_came f n q j) j := ff_ct_f (by simp [c20])
          refine lv_iinc (v := nI (j + 1)) (lv' := [(3, .int (nI (j + 1))), (0, .ref a0), (1, .int (nI q)), (2, .int (nI (ff_ct (fun j => !ff_came f n q j) j)))]) hx hb dX0_countDifferent_26 hl (k := 3) rfl (nI_1 _) (by decide) rfl (fun ls hl => ?_)
          refine lv_goto (tgt := 4) hx hb dX0_countDifferent_29 (by decide) ?_
          rw [← e9] at hl
          exact ih_4 (j + 1) _ _ _ (by omega) (by omega) hP hS (lv_sub hl [1, 2, 3, 0] rfl)
        · have c20 := bI_z.mp c20
          have e9 : ff_ct (fun j => !ff_came f n q j) (j + 1) = ff_ct (fun j => !ff_came f n q j) j + 1 := ff_ct_t (by simpa using c20)
          refine lv_iinc (v := nI (ff_ct (fun j => !ff_came f n q j) j + 1)) (lv' := [(2, .int (nI (ff_ct (fun j => !ff_came f n q j) j + 1))), (0, .ref a0), (1, .int (nI q)), (3, .int (nI j))]) hx hb dX0_countDifferent_23 hl (k := 2) rfl (nI_1 _) (by decide) rfl (fun ls hl => ?_)
          refine lv_iinc (v := nI (j + 1)) (lv' := [(3, .int (nI (j + 1))), (2, .int (nI (ff_ct (fun j => !ff_came f n q j) j + 1))), (0, .ref a0), (1, .int (nI q))]) hx hb dX0_countDifferent_26 hl (k := 3) rfl (nI_1 _) (by decide) rfl (fun ls hl => ?_)
          refine lv_goto (tgt := 4) hx hb dX0_countDifferent_29 (by decide) ?_
          rw [← e9] at hl
          exact ih_4 (j + 1) _ _ _ (by omega) (by omega) hP hS (lv_sub hl [2, 3, 1, 0] rfl)
  exact lp_4 (_ + 1) (0) _ _ _ (Nat.zero_le _) (Nat.lt_succ_self _) hP hS (lv_sub hl [2, 3, 1, 0] rfl)

set_option maxHeartbeats 4000000 in
set_option maxRecDepth 100000 in
/-- ItemRow.repeatLength -/
theorem k_X0_repeatLength (l : Launch) (D : va_G) (cI : ClassId) (a0 a1 n : Nat) (f : Nat → Int32) (i j : Nat) (hij : i < j) (hj : j ≤ n) (hn : n ≤ 60) : Cp l yX0_repeatLength cX0_repeatLength 4 (some .int) 1 D (tI cI) [.ref a0, .int (nI i), .int (nI j)] [(a0, .inr (0, [.ref a1, .int (nI n)])), (a1, oI cI 60 f)] (nI (ff_rl f n i j)) := by
  refine Cp.of (own := RX0) (lv := [(0, .ref a0), (1, .int (nI i)), (2, .int (nI j))]) (by decide +kernel) rfl (Nat.le_of_ble_eq_true rfl) rfl (vp_nar_int _) ?_
  intro p e s m args below meth c Q cx hK hP hret ls hl
  obtain ⟨hx, hb, hml, hown, hg⟩ := id cx
  have hS : va_S (fun _ => False) s.heap s.heap [] := va_S.rf
  refine lv_iload_n hx hb dX0_repeatLength_0 rfl (lv_at hl 1 rfl) ?_
  refine lv_if_le (tgt := 27) hx hb dX0_repeatLength_1 (by decide) (fun c1 => ?_) (fun c1 => ?_)
  · have c1 := (nz_le (by omega)).mp c1
    refine lv_iconst (v := nI 0) hx hb dX0_repeatLength_27 (by decide) ?_
    refine lv_istore_n (lv' := [(3, .int (nI 0)), (0, .ref a0), (1, .int (nI i)), (2, .int (nI j))]) hx hb dX0_repeatLength_28 rfl hl (by decide) rfl (fun ls hl => ?_)
    refine lv_iload_n hx hb dX0_repeatLength_29 rfl (lv_at hl 0 rfl) ?_
    refine lv_if_eq (tgt := 37) hx hb dX0_repeatLength_30 (by decide) (fun _ => ?_) (fun h9 => absurd (by decide) h9)
    refine lv_aload_n hx hb dX0_repeatLength_37 rfl (lv_at hl 1 rfl) ?_
    refine lv_iload_n hx hb dX0_repeatLength_38 rfl (lv_at hl 2 rfl) ?_
    refine lv_iload_n hx hb dX0_repeatLength_39 rfl (lv_at hl 3 rfl) ?_
    refine Cp.callV (As := [.int (nI i), .int (nI j)]) (rest := []) (cv_X0_49 hg ⟨Nat.le_of_ble_eq_true rfl, Nat.le_of_ble_eq_true rfl⟩) (k_X0_sameRun l D cI a0 a1 n f i j hij hj hn) cx hK hP [0, 1] rfl (rq := 0) rfl rfl rfl hS rfl hl.1 rfl (Nat.le_of_ble_eq_true rfl) dX0_repeatLength_40 ⟨Nat.zero_le _, Nat.zero_le _⟩ (fun H locs hP hS => ?_)
    exact hret _ _ 43 _ _ hS dX0_repeatLength_43 (by unfold ff_rl; split <;> first | rfl | (rename_i h9; exfalso; first | exact c20 h9.2 | exact h9 ⟨by omega, c20⟩ | (have h8 := h9.1; omega)))
  · have c1 := mt (nz_le (by omega)).mpr c1
    refine lv_aload_n hx hb dX0_repeatLength_4 rfl (lv_at hl 0 rfl) ?_
    refine gf_X0_9 hx hb hg hown hK hP 0 rfl rfl dX0_repeatLength_5 ?_
    refine lv_iload_n hx hb dX0_repeatLength_8 rfl (lv_at hl 1 rfl) ?_
    refine lv_iconst (v := nI 1) hx hb dX0_repeatLength_9 (by decide) ?_
    refine lv_isub hx hb dX0_repeatLength_10 ?_
    refine lv_asi (pk_sub (by omega)) ?_
    refine ald hx hb hK hP 1 rfl rfl (by omega) dX0_repeatLength_11 ?_
    refine lv_aload_n hx hb dX0_repeatLength_12 rfl (lv_at hl 0 rfl) ?_
    refine gf_X0_9 hx hb hg hown hK hP 0 rfl rfl dX0_repeatLength_13 ?_
    refine lv_iload_n hx hb dX0_repeatLength_16 rfl (lv_at hl 2 rfl) ?_
    refine lv_iconst (v := nI 1) hx hb dX0_repeatLength_17 (by decide) ?_
    refine lv_isub hx hb dX0_repeatLength_18 ?_
    refine lv_asi (pk_sub (by omega)) ?_
    refine ald hx hb hK hP 1 rfl rfl (by omega) dX0_repeatLength_19 ?_
    refine lv_icmp_ne (tgt := 27) hx hb dX0_repeatLength_20 (by decide) (fun c20 => ?_) (fun c20 => ?_)
    · skip
      refine lv_iconst (v := nI 0) hx hb dX0_repeatLength_27 (by decide) ?_
      refine lv_istore_n (lv' := [(3, .int (nI 0)), (0, .ref a0), (1, .int (nI i)), (2, .int (nI j))]) hx hb dX0_repeatLength_28 rfl hl (by decide) rfl (fun ls hl => ?_)
      refine lv_iload_n hx hb dX0_repeatLength_29 rfl (lv_at hl 0 rfl) ?_
      refine lv_if_eq (tgt := 37) hx hb dX0_repeatLength_30 (by decide) (fun _ => ?_) (fun h9 => absurd (by decide) h9)
      refine lv_aload_n hx hb dX0_repeatLength_37 rfl (lv_at hl 1 rfl) ?_
      refine lv_iload_n hx hb dX0_repeatLength_38 rfl (lv_at hl 2 rfl) ?_
      refine lv_iload_n hx hb dX0_repeatLength_39 rfl (lv_at hl 3 rfl) ?_
      refine Cp.callV (As := [.int (nI i), .int (nI j)]) (rest := []) (cv_X0_49 hg ⟨Nat.le_of_ble_eq_true rfl, Nat.le_of_ble_eq_true rfl⟩) (k_X0_sameRun l D cI a0 a1 n f i j hij hj hn) cx hK hP [0, 1] rfl (rq := 0) rfl rfl rfl hS rfl hl.1 rfl (Nat.le_of_ble_eq_true rfl) dX0_repeatLength_40 ⟨Nat.zero_le _, Nat.zero_le _⟩ (fun H locs hP hS => ?_)
      exact hret _ _ 43 _ _ hS dX0_repeatLength_43 (by unfold ff_rl; split <;> first | rfl | (rename_i h9; exfalso; first | exact c20 h9.2 | exact h9 ⟨by omega, c20⟩ | (have h8 := h9.1; omega)))
    · skip
      refine lv_iconst (v := nI 1) hx hb dX0_repeatLength_23 (by decide) ?_
      refine lv_goto (tgt := 28) hx hb dX0_repeatLength_24 (by decide) ?_
      refine lv_istore_n (lv' := [(3, .int (nI 1)), (0, .ref a0), (1, .int (nI i)), (2, .int (nI j))]) hx hb dX0_repeatLength_28 rfl hl (by decide) rfl (fun ls hl => ?_)
      refine lv_iload_n hx hb dX0_repeatLength_29 rfl (lv_at hl 0 rfl) ?_
      refine lv_if_eq (tgt := 37) hx hb dX0_repeatLength_30 (by decide) (fun h9 => absurd h9 (by decide)) (fun _ => ?_)
      refine lv_iconst (v := nI 0) hx hb dX0_repeatLength_33 (by decide) ?_
      refine lv_goto (tgt := 43) hx hb dX0_repeatLength_34 (by decide) ?_
      exact hret _ _ 43 _ _ hS dX0_repeatLength_43 (by unfold ff_rl; split <;> first | rfl | (rename_i h9; exfalso; first | exact c20 h9.2 | exact h9 ⟨by omega, c20⟩ | (have h8 := h9.1; omega)))

set_option maxHeartbeats 4000000 in
set_option maxRecDepth 100000 in
/-- ItemRow.leastPeriod -/
theorem k_X0_leastPeriod (l : Launch) (D : va_G) (cI : ClassId) (a0 a1 n : Nat) (f : Nat → Int32) (hn : n ≤ 60) : Cp l yX0_leastPeriod cX0_leastPeriod 2 (some .int) 1 D (tI cI) [.ref a0] [(a0, .inr (0, [.ref a1, .int (nI n)])), (a1, oI cI 60 f)] (nI (ff_per f n)) := by
  refine Cp.of (own := RX0) (lv := [(0, .ref a0)]) (by decide +kernel) rfl (Nat.le_of_ble_eq_true rfl) rfl (vp_nar_int _) ?_
  intro p e s m args below meth c Q cx hK hP hret ls hl
  obtain ⟨hx, hb, hml, hown, hg⟩ := id cx
  have hS : va_S (fun _ => False) s.heap s.heap [] := va_S.rf
  refine lv_iconst (v := nI 1) hx hb dX0_leastPeriod_0 (by decide) ?_
  refine lv_istore_n (lv' := [(1, .int (nI 1)), (0, .ref a0)]) hx hb dX0_leastPeriod_1 rfl hl (by decide) rfl (fun ls hl => ?_)
  have lp_2 : ∀ (k : Nat) (q : Nat) (H : Heap) (locs : List Loc) (ls : Array Slot), (1 ≤ q) → (q ≤ n ∨ q = 1) → (ff_pl f n q (n - q) = ff_per f n) → (n - q < k) → va_P D vwCl [(a0, .inr (0, [.ref a1, .int (nI n)])), (a1, oI cI 60 f)] H → va_S (fun _ => False) s.heap H locs → lv_has ls 2 [(0, .ref a0), (1, .int (nI q))] → W p l e (rr 1 0 0) s m args below meth c H locs 0 0 Q (F0 m 2 ls []) := by
    intro k
    induction k with
    | zero =>
      intro q H locs ls hq1 hq he hk
      exact absurd hk (Nat.not_lt_zero _)
    | succ k ih_2 =>
      intro q H locs ls hq1 hq he hk hP hS hl
      refine lv_iload_n hx hb dX0_leastPeriod_2 rfl (lv_at hl 1 rfl) ?_
      refine lv_aload_n hx hb dX0_leastPeriod_3 rfl (lv_at hl 0 rfl) ?_
      refine gf_X0_40 hx hb hg hown hK hP 0 rfl rfl dX0_leastPeriod_4 ?_
      refine lv_icmp_ge (tgt := 33) hx hb dX0_leastPeriod_7 (by decide) (fun c7 => ?_) (fun c7 => ?_)
      · have c7 := (nI_leI (by omega) (by omega)).mp c7
        refine lv_aload_n hx hb dX0_leastPeriod_33 rfl (lv_at hl 0 rfl) ?_
        refine gf_X0_40 hx hb hg hown hK hP 0 rfl rfl dX0_leastPeriod_34 ?_
        exact hret _ _ 37 _ _ hS dX0_leastPeriod_37 (by rw [← he, show n - q = 0 by omega]; rfl)
      · have c7 := mt (nI_leI (by omega) (by omega)).mpr c7
        refine lv_aload_n hx hb dX0_leastPeriod_10 rfl (lv_at hl 0 rfl) ?_
        refine lv_iconst (v := nI 0) hx hb dX0_leastPeriod_11 (by decide) ?_
        refine lv_iload_n hx hb dX0_leastPeriod_12 rfl (lv_at hl 1 rfl) ?_
        refine Cp.callV (As := [.int (nI 0), .int (nI q)]) (rest := []) (cv_X0_49 hg ⟨Nat.le_of_ble_eq_true rfl, Nat.le_of_ble_eq_true rfl⟩) (k_X0_sameRun l D cI a0 a1 n f 0 q (by omega) (by omega) hn) cx hK hP [0, 1] rfl (rq := 0) rfl rfl rfl hS rfl hl.1 rfl (Nat.le_of_ble_eq_true rfl) dX0_leastPeriod_13 ⟨Nat.zero_le _, Nat.zero_le _⟩ (fun H locs hP hS => ?_)
        have hrl := ff_run_le f (n - q) 0 q
        refine lv_aload_n hx hb dX0_leastPeriod_16 rfl (lv_at hl 0 rfl) ?_
        refine gf_X0_40 hx hb hg hown hK hP 0 rfl rfl dX0_leastPeriod_17 ?_
        refine lv_iload_n hx hb dX0_leastPeriod_20 rfl (lv_at hl 1 rfl) ?_
        refine lv_isub hx hb dX0_leastPeriod_21 ?_
        refine lv_asi (pk_sub (by omega)) ?_
        refine lv_icmp_ne (tgt := 27) hx hb dX0_leastPeriod_22 (by decide) (fun c22 => ?_) (fun c22 => ?_)
        · have c22 := mt (nI_eq (by omega) (by omega)).mpr c22
          refine lv_iinc (v := nI (q + 1)) (lv' := [(1, .int (nI (q + 1))), (0, .ref a0)]) hx hb dX0_leastPeriod_27 hl (k := 1) rfl (nI_1 _) (by decide) rfl (fun ls hl => ?_)
          refine lv_goto (tgt := 2) hx hb dX0_leastPeriod_30 (by decide) ?_
          exact ih_2 (q + 1) _ _ _ (by omega) (by omega) (by rw [← he, show n - q = n - (q + 1) + 1 by omega]; show _ = if _ then _ else _; rw [if_neg (by omega)]) (by omega) hP hS (lv_sub hl [1, 0] rfl)
        · have c22 := (nI_eq (by omega) (by omega)).mp c22
          refine lv_iload_n hx hb dX0_leastPeriod_25 rfl (lv_at hl 1 rfl) ?_
          exact hret _ _ 26 _ _ hS dX0_leastPeriod_26 (by rw [← he, show n - q = n - (q + 1) + 1 by omega]; show _ = nI (if _ then _ else _); rw [if_pos (by omega)])
  exact lp_2 (_ + 1) (1) _ _ _ (Nat.le_refl _) (by omega) (rfl) (Nat.lt_succ_self _) hP hS (lv_sub hl [1, 0] rfl)

set_option maxHeartbeats 4000000 in
set_option maxRecDepth 100000 in
/-- ItemRow.countSame -/
theorem k_X0_countSame (l : Launch) (D : va_G) (cI : ClassId) (a0 a1 n : Nat) (f : Nat → Int32) (i j q : Nat) (hi : i + q ≤ 60) (hj : j + q ≤ 60) : Cp l yX0_countSame cX0_countSame 6 (some .int) 0 D (tI cI) [.ref a0, .int (nI i), .int (nI j), .int (nI q)] [(a0, .inr (0, [.ref a1, .int (nI n)])), (a1, oI cI 60 f)] (nI (ff_same f i j q)) := by
  refine Cp.of (own := RX0) (lv := [(0, .ref a0), (1, .int (nI i)), (2, .int (nI j)), (3, .int (nI q))]) (by decide +kernel) rfl (Nat.le_of_ble_eq_true rfl) rfl (vp_nar_int _) ?_
  intro p e s m args below meth c Q cx hK hP hret ls hl
  obtain ⟨hx, hb, hml, hown, hg⟩ := id cx
  have hS : va_S (fun _ => False) s.heap s.heap [] := va_S.rf
  refine lv_iconst (v := nI 0) hx hb dX0_countSame_0 (by decide) ?_
  refine lv_istore (lv' := [(4, .int (nI 0)), (0, .ref a0), (1, .int (nI i)), (2, .int (nI j)), (3, .int (nI q))]) hx hb dX0_countSame_1 hl (by decide) rfl (fun ls hl => ?_)
  refine lv_iconst (v := nI 0) hx hb dX0_countSame_3 (by decide) ?_
  refine lv_istore (lv' := [(5, .int (nI 0)), (4, .int (nI 0)), (0, .ref a0), (1, .int (nI i)), (2, .int (nI j)), (3, .int (nI q))]) hx hb dX0_countSame_4 hl (by decide) rfl (fun ls hl => ?_)
  have lp_6 : ∀ (k : Nat) (t : Nat) (H : Heap) (locs : List Loc) (ls : Array Slot), (t ≤ q) → (q - t < k) → va_P D vwCl [(a0, .inr (0, [.ref a1, .int (nI n)])), (a1, oI cI 60 f)] H → va_S (fun _ => False) s.heap H locs → lv_has ls 6 [(0, .ref a0), (1, .int (nI i)), (2, .int (nI j)), (3, .int (nI q)), (4, .int (nI (ff_same f i j t))), (5, .int (nI t))] → W p l e (rr 0 0 0) s m args below meth c H locs 0 0 Q (F0 m 6 ls []) := by
    intro k
    induction k with
    | zero =>
      intro t H locs ls ht hk
      exact absurd hk (Nat.not_lt_zero _)
    | succ k ih_6 =>
      intro t H locs ls ht hk hP hS hl
      refine lv_iload hx hb dX0_countSame_6 (lv_at hl 5 rfl) ?_
      refine lv_iload_n hx hb dX0_countSame_8 rfl (lv_at hl 3 rfl) ?_
      refine lv_icmp_ge (tgt := 42) hx hb dX0_countSame_9 (by decide) (fun c9 => ?_) (fun c9 => ?_)
      · have c9 := (nI_leI (by omega) (by omega)).mp c9
        refine lv_iload hx hb dX0_countSame_42 (lv_at hl 4 rfl) ?_
        exact hret _ _ 44 _ _ hS dX0_countSame_44 (by rw [show q = t by omega])
      · have c9 := mt (nI_leI (by omega) (by omega)).mpr c9
        refine lv_aload_n hx hb dX0_countSame_12 rfl (lv_at hl 0 rfl) ?_
        refine gf_X0_9 hx hb hg hown hK hP 0 rfl rfl dX0_countSame_13 ?_
        refine lv_iload_n hx hb dX0_countSame_16 rfl (lv_at hl 1 rfl) ?_
        refine lv_iload hx hb dX0_countSame_17 (lv_at hl 5 rfl) ?_
        refine lv_iadd hx hb dX0_countSame_19 ?_
        refine lv_asi (nI_add _ _) ?_
        refine ald hx hb hK hP 1 rfl rfl (by omega) dX0_countSame_20 ?_
        refine lv_aload_n hx hb dX0_countSame_21 rfl (lv_at hl 0 rfl) ?_
        refine gf_X0_9 hx hb hg hown hK hP 0 rfl rfl dX0_countSame_22 ?_
        refine lv_iload_n hx hb dX0_countSame_25 rfl (lv_at hl 2 rfl) ?_
        refine lv_iload hx hb dX0_countSame_26 (lv_at hl 5 rfl) ?_
        refine lv_iadd hx hb dX0_countSame_28 ?_
        refine lv_asi (nI_add _ _) ?_
        refine ald hx hb hK hP 1 rfl rfl (by omega) dX0_countSame_29 ?_
        refine lv_icmp_ne (tgt := 36) hx hb dX0_countSame_30 (by decide) (fun c30 => ?_) (fun c30 => ?_)
        · skip
          have e9 : ff_same f i j (t + 1) = ff_same f i j t := ff_ct_f (by simp [c30])
          refine lv_iinc (v := nI (t + 1)) (lv' := [(5, .int (nI (t + 1))), (0, .ref a0), (1, .int (nI i)), (2, .int (nI j)), (3, .int (nI q)), (4, .int (nI (ff_same f i j t)))]) hx hb dX0_countSame_36 hl (k := 5) rfl (nI_1 _) (by decide) rfl (fun ls hl => ?_)
          refine lv_goto (tgt := 6) hx hb dX0_countSame_39 (by decide) ?_
          rw [← e9] at hl
          exact ih_6 (t + 1) _ _ _ (by omega) (by omega) hP hS (lv_sub hl [1, 2, 3, 4, 5, 0] rfl)
        · skip
          have e9 : ff_same f i j (t + 1) = ff_same f i j t + 1 := ff_ct_t (by simp [c30])
          refine lv_iinc (v := nI (ff_same f i j t + 1)) (lv' := [(4, .int (nI (ff_same f i j t + 1))), (0, .ref a0), (1, .int (nI i)), (2, .int (nI j)), (3, .int (nI q)), (5, .int (nI t))]) hx hb dX0_countSame_33 hl (k := 4) rfl (nI_1 _) (by decide) rfl (fun ls hl => ?_)
          refine lv_iinc (v := nI (t + 1)) (lv' := [(5, .int (nI (t + 1))), (4, .int (nI (ff_same f i j t + 1))), (0, .ref a0), (1, .int (nI i)), (2, .int (nI j)), (3, .int (nI q))]) hx hb dX0_countSame_36 hl (k := 5) rfl (nI_1 _) (by decide) rfl (fun ls hl => ?_)
          refine lv_goto (tgt := 6) hx hb dX0_countSame_39 (by decide) ?_
          rw [← e9] at hl
          exact ih_6 (t + 1) _ _ _ (by omega) (by omega) hP hS (lv_sub hl [2, 3, 4, 5, 1, 0] rfl)
  exact lp_6 (_ + 1) (0) _ _ _ (Nat.zero_le _) (Nat.lt_succ_self _) hP hS (lv_sub hl [2, 3, 4, 5, 1, 0] rfl)
end
section
theorem i_nlt {x y : Int32} : ¬ x < y ↔ y ≤ x := by rw [Int32.le_iff_toInt_le, Int32.lt_iff_toInt_lt]; omega
theorem i_nle {x y : Int32} : ¬ x ≤ y ↔ y < x := by rw [Int32.le_iff_toInt_le, Int32.lt_iff_toInt_lt]; omega
theorem ff_cnt_ix {v n i : Nat} (h : i < ff_cnt v n) (hn : n ≤ 60) : i + 1 < 60 ∨ (i < 60 ∧ ¬ v = 1 ∧ ¬ v = 2) := by
  unfold ff_cnt at h
  split at h <;> omega
/-- the first k places filled with g -/
def ff_fill (g f : Nat → Int32) (k : Nat) : Nat → Int32 := fun i => if i < k then g i else f i
theorem ff_fill_0 (g f : Nat → Int32) : ff_fill g f 0 = f := by funext i; simp [ff_fill]
theorem ff_fill_s (g f : Nat → Int32) (k : Nat) : upd (ff_fill g f k) k (g k) = ff_fill g f (k + 1) := by
  funext i
  unfold upd ff_fill
  by_cases h : i = k
  · subst h; rw [if_pos rfl, if_pos (by omega)]
  · rw [if_neg h]
    by_cases h2 : i < k
    · rw [if_pos h2, if_pos (by omega)]
    · rw [if_neg h2, if_neg (by omega)]
theorem ff_fill_in {g f : Nat → Int32} {k i : Nat} (h : i < k) : ff_fill g f k i = g i := if_pos h
def ff_src (fo tn i : Nat) : Nat := if fo < 2 then i else tn - 1 - i
theorem ff_src_lt {fo tn i : Nat} (h : i < tn) : ff_src fo tn i < tn := by unfold ff_src; split <;> omega
/-- pitch of note i of a form -/
def ff_fp (T : Nat → Int32) (fo tn i : Nat) : Int32 := if fo = 1 ∨ fo = 3 then nI 2 * T (ff_src fo tn 0) - T (ff_src fo tn i) else T (ff_src fo tn i)
def ff_fl (T : Nat → Int32) (fo tn i : Nat) : Int32 := T (ff_src fo tn i)
/-- pitch of note i of the answer -/
def ff_ap (T : Nat → Int32) (ky hd i : Nat) : Int32 := T i + (if i < hd ∧ ((T i).toInt + 113 - (ky : Int)) % 12 = 0 then nI 5 else nI 7)
def ff_all (p : Nat → Bool) : Nat → Bool
  | 0 => true
  | k + 1 => ff_all p k && p k
theorem ff_all_iff (p : Nat → Bool) : ∀ n, ff_all p n = true ↔ ∀ t, t < n → p t = true
  | 0 => ⟨fun _ t h => absurd h (Nat.not_lt_zero _), fun _ => rfl⟩
  | n + 1 => by
    show (ff_all p n && p n) = true ↔ _
    rw [Bool.and_eq_true, ff_all_iff p n]
    constructor
    · rintro ⟨h1, h2⟩ t ht
      by_cases h : t = n
      · subst h; exact h2
      · exact h1 t (by omega)
    · intro h
      exact ⟨fun t ht => h t (by omega), h n (by omega)⟩
/-- what is sought, of sn notes, is found at z -/
def ff_at (NP NL SP SL : Nat → Int32) (sn : Nat) (up dn : Int32) (z : Nat) : Bool :=
  ff_all (fun t => (decide (t = 0) || decide (NP (z + t) - NP (z + t - 1) = SP t - SP (t - 1))) && decide (NL (z + t) * dn = SL t * up)) sn
/-- floorMod by 12 of a small number -/
theorem ff_fm {x : Int32} {z : Int} (hx : x.toInt = z) (h1 : -11 ≤ z) (h2 : z ≤ 127) :
    (z = 0 ∨ 0 < z → (x - x / nI 12 * nI 12) = nI (z % 12).toNat) ∧ (z < 0 → (x - x / nI 12 * nI 12) = x) := by
  have key : ∀ a : Fin 128, (nI a.val - nI a.val / nI 12 * nI 12) = nI (a.val % 12) := by decide +kernel
  have key2 : ∀ a : Fin 12, ((-(nI a.val)) - (-(nI a.val)) / nI 12 * nI 12) = -(nI a.val) := by decide +kernel
  constructor
  · intro h
    obtain ⟨a, ha⟩ : ∃ a : Nat, z = a := ⟨z.toNat, by omega⟩
    have hxa : x = nI a := Int32.toInt_inj.mp (by rw [hx, nI_toInt (by omega), ha])
    have := key ⟨a, by omega⟩
    rw [hxa, this]
    congr 1
    show a % 12 = (z % 12).toNat
    omega
  · intro h
    obtain ⟨a, ha⟩ : ∃ a : Nat, z = -(a : Int) := ⟨(-z).toNat, by omega⟩
    have hxa : x = -(nI a) := Int32.toInt_inj.mp (by rw [hx, sb_negT (by omega), ha])
    have := key2 ⟨a, by omega⟩
    rw [hxa]; exact this
theorem ff_fm2 {x : Int32} {z : Int} (hx : x.toInt = z) (h1 : -11 ≤ z) (h2 : z < 0) : x + nI 12 = nI (z % 12).toNat := by
  obtain ⟨a, ha⟩ : ∃ a : Nat, z = -(a : Int) := ⟨(-z).toNat, by omega⟩
  have hxa : x = -(nI a) := Int32.toInt_inj.mp (by rw [hx, sb_negT (by omega), ha])
  have key : ∀ a : Fin 12, a.val = 0 ∨ (-(nI a.val)) + nI 12 = nI (12 - a.val) := by decide +kernel
  rcases key ⟨a, by omega⟩ with h | h
  · have h3 : a = 0 := h
    omega
  · rw [hxa, h]
    congr 1
    show 12 - a = _
    omega
theorem ff_xor {a : Nat} (h : a < 128) : 0 ≤ (nI a ^^^ nI 12) := by
  have key : ∀ a : Fin 128, 0 ≤ (nI a.val ^^^ nI 12) := by decide +kernel
  exact key ⟨a, h⟩
theorem ff_xor2 {a : Nat} (h0 : 0 < a) (h : a < 12) : ¬ 0 ≤ ((-(nI a)) ^^^ nI 12) := by
  have key : ∀ a : Fin 12, a.val = 0 ∨ ¬ 0 ≤ ((-(nI a.val)) ^^^ nI 12) := by decide +kernel
  rcases key ⟨a, h⟩ with h1 | h1
  · have : a = 0 := h1
    omega
  · exact h1
theorem ff_fm0 {x : Int32} {z : Int} (hx : x.toInt = z) (h1 : -11 ≤ z) (h2 : z ≤ 127) : (x - x / nI 12 * nI 12) = (if z < 0 then x else nI (z % 12).toNat) := by
  obtain ⟨hA, hB⟩ := ff_fm hx h1 h2
  split
  · rename_i h; exact hB h
  · rename_i h; exact hA (by omega)
theorem ff_neg9 {x : Int32} {z : Int} (hx : x.toInt = z) (h1 : -11 ≤ z) (h2 : z < 0) : ∃ a : Nat, 0 < a ∧ a < 12 ∧ x = -(nI a) := by
  obtain ⟨a, ha⟩ : ∃ a : Nat, z = -(a : Int) := ⟨(-z).toNat, by omega⟩
  exact ⟨a, by omega, by omega, Int32.toInt_inj.mp (by rw [hx, sb_negT (by omega), ha])⟩
theorem ff_fmA {x : Int32} {z : Int} (hx : x.toInt = z) (h1 : -11 ≤ z) (c : 0 ≤ (x ^^^ nI 12)) : (if z < 0 then x else nI (z % 12).toNat) = nI (z % 12).toNat := by
  split
  · rename_i h
    obtain ⟨a, h3, h4, rfl⟩ := ff_neg9 hx h1 h
    exact absurd c (ff_xor2 h3 h4)
  · rfl
theorem ff_fmB {x : Int32} {z : Int} (hx : x.toInt = z) (h1 : -11 ≤ z) (c : (if z < 0 then x else nI (z % 12).toNat) = 0) : (if z < 0 then x else nI (z % 12).toNat) = nI (z % 12).toNat := by
  split
  · rename_i h
    rw [if_pos h] at c
    rw [c] at hx
    have : (0 : Int32).toInt = 0 := rfl
    omega
  · rfl
theorem ff_nat9 {x : Int32} (h1 : 0 ≤ x.toInt) (h2 : x.toInt ≤ 127) : ∃ a : Nat, a ≤ 127 ∧ x = nI a := by
  refine ⟨x.toInt.toNat, by omega, Int32.toInt_inj.mp ?_⟩
  rw [nI_toInt (by omega)]
  omega
theorem ff_fmC {x : Int32} {z : Int} (hx : x.toInt = z) (h1 : -11 ≤ z) (h2 : z ≤ 127) (c : ¬ 0 ≤ (x ^^^ nI 12)) : (if z < 0 then x else nI (z % 12).toNat) + nI 12 = nI (z % 12).toNat := by
  split
  · rename_i h
    exact ff_fm2 hx h1 h
  · rename_i h
    obtain ⟨a, ha, rfl⟩ := ff_nat9 (x := x) (by omega) (by omega)
    exact absurd (ff_xor (by omega)) c
theorem ff_sub9 {x : Int32} {ky : Nat} (h1 : 0 ≤ x.toInt) (h2 : x.toInt ≤ 127) (hk : ky ≤ 11) : (x - nI ky).toInt = x.toInt - (ky : Int) := by
  obtain ⟨a, ha, rfl⟩ := ff_nat9 h1 h2
  rw [pk_sub_toInt (by omega) (by omega), nI_toInt (by omega)]
/-- the place of a hit is the number of hits ahead of it -/
theorem ff_ct_mono (p : Nat → Bool) {a b : Nat} (h : a ≤ b) : ff_ct p a ≤ ff_ct p b := by
  induction b with
  | zero => rw [show a = 0 by omega]; exact Nat.le_refl _
  | succ b ih =>
    by_cases hb : a = b + 1
    · subst hb; exact Nat.le_refl _
    · have := ih (by omega)
      exact Nat.le_trans this (Nat.le_add_right _ _)
theorem ff_ct_lt (p : Nat → Bool) {a b : Nat} (h : a < b) (hp : p a = true) : ff_ct p a < ff_ct p b := by
  have h1 := ff_ct_mono p (show a + 1 ≤ b from h)
  rw [ff_ct_t hp] at h1
  omega
theorem ff_ct_sur (p : Nat → Bool) : ∀ (n k : Nat), k < ff_ct p n → ∃ z, z < n ∧ p z = true ∧ ff_ct p z = k
  | 0, k, h => absurd h (Nat.not_lt_zero _)
  | n + 1, k, h => by
    by_cases hk : k < ff_ct p n
    · obtain ⟨z, h1, h2, h3⟩ := ff_ct_sur p n k hk
      exact ⟨z, by omega, h2, h3⟩
    · by_cases hp : p n = true
      · rw [ff_ct_t hp] at h
        exact ⟨n, by omega, hp, by omega⟩
      · rw [ff_ct_f hp] at h
        exact absurd h hk
theorem ff_ct_ext {p q : Nat → Bool} : ∀ {n : Nat}, (∀ t, t < n → p t = q t) → ff_ct p n = ff_ct q n
  | 0, _ => rfl
  | n + 1, h => by
    unfold ff_ct
    rw [ff_ct_ext (fun t ht => h t (by omega)), h n (by omega)]
theorem ff_ct_zero {p : Nat → Bool} {a : Nat} : ∀ {b : Nat}, a ≤ b → (∀ t, a ≤ t → t < b → p t = false) → ff_ct p b = ff_ct p a
  | 0, h, _ => by rw [show a = 0 by omega]
  | b + 1, h, hz => by
    by_cases hb : a = b + 1
    · subst hb; rfl
    · rw [ff_ct_f (by rw [hz b (by omega) (by omega)]; decide)]
      exact ff_ct_zero (by omega) (fun t h1 h2 => hz t h1 (by omega))
/-- a row u holds the hits of p below n, in order -/
def ff_hits (p : Nat → Bool) (n : Nat) (u : Nat → Int32) : Prop := ∀ z, z < n → p z = true → u (ff_ct p z) = nI z
theorem ff_hits_0 (p : Nat → Bool) (u : Nat → Int32) : ff_hits p 0 u := fun z h => absurd h (Nat.not_lt_zero _)
theorem ff_hits_t {p : Nat → Bool} {n : Nat} {u : Nat → Int32} (h : ff_hits p n u) : ff_hits p (n + 1) (upd u (ff_ct p n) (nI n)) := by
  intro z hz hp
  by_cases hn : z = n
  · subst hn; exact pk_us
  · rw [pk_un (by have := ff_ct_lt p (show z < n by omega) hp; omega)]
    exact h z (by omega) hp
theorem ff_hits_f {p : Nat → Bool} {n : Nat} {u : Nat → Int32} (h : ff_hits p n u) (hp : ¬ p n = true) : ff_hits p (n + 1) u := by
  intro z hz h2
  by_cases hn : z = n
  · subst hn; exact absurd h2 hp
  · exact h z (by omega) h2
theorem ff_hits_eq {p : Nat → Bool} {n k : Nat} {u w : Nat → Int32} (h1 : ff_hits p n u) (h2 : ff_hits p n w) (hk : k < ff_ct p n) : u k = w k := by
  obtain ⟨z, hz, hp, rfl⟩ := ff_ct_sur p n k hk
  rw [h1 z hz hp, h2 z hz hp]
end
section
set_option maxHeartbeats 4000000 in
set_option maxRecDepth 100000 in
/-- NoteRow.append -/
theorem k_X1_append (l : Launch) (D : va_G) (cI : ClassId) (a0 a1 a2 n : Nat) (P L : Nat → Int32) (x y : Int32) (hn : n < 60) : Cv l yX1_append cX1_append 3 0 0 0 D (tI cI) [.ref a0, .int x, .int y] [(a0, .inr (1, [.ref a1, .ref a2, .int (nI n)])), (a1, oI cI 60 P), (a2, oI cI 60 L)] (S := Unit) (fun _ => True) (fun u => [(a0, .inr (1, [.ref a1, .ref a2, .int (nI (n + 1))])), (a1, oI cI 60 (upd P n x)), (a2, oI cI 60 (upd L n y))]) := by
  refine Cv.of (own := RX1) (lv := [(0, .ref a0), (1, .int x), (2, .int y)]) (by decide +kernel) rfl (Nat.le_of_ble_eq_true rfl) rfl ?_
  intro p e s m args below meth c Q A cx hin hK hP hD hA hret ls hl
  obtain ⟨hx, hb, hml, hown, hg⟩ := id cx
  have hS : va_S A s.heap s.heap [] := va_S.rf
  refine lv_aload_n hx hb dX1_append_0 rfl (lv_at hl 0 rfl) ?_
  refine gf_X1_18 hx hb hg hown hK hP 0 rfl rfl dX1_append_1 ?_
  refine lv_bipush (v := nI 60) hx hb dX1_append_4 (by decide) ?_
  refine lv_icmp_ge (tgt := 39) hx hb dX1_append_6 (by decide) (fun c6 => ?_) (fun c6 => ?_)
  · have c6 := (nI_leI (by omega) (by omega)).mp c6
    exfalso; omega
  · have c6 := mt (nI_leI (by omega) (by omega)).mpr c6
    refine lv_aload_n hx hb dX1_append_9 rfl (lv_at hl 0 rfl) ?_
    refine gf_X1_9 hx hb hg hown hK hP 0 rfl rfl dX1_append_10 ?_
    refine lv_aload_n hx hb dX1_append_13 rfl (lv_at hl 0 rfl) ?_
    refine gf_X1_18 hx hb hg hown hK hP 0 rfl rfl dX1_append_14 ?_
    refine lv_iload_n hx hb dX1_append_17 rfl (lv_at hl 1 rfl) ?_
    refine ast hx hb hK hP hD hS 1 rfl rfl (by omega) dX1_append_18 (fun H locs hP hD hS => ?_)
    have hP : va_P D vwCl [(a0, .inr (1, [.ref a1, .ref a2, .int (nI n)])), (a1, oI cI 60 (upd P n (x))), (a2, oI cI 60 L)] H := hP
    have hD : va_D A [(a0, .inr (1, [.ref a1, .ref a2, .int (nI n)])), (a1, oI cI 60 (upd P n (x))), (a2, oI cI 60 L)] := hD
    refine lv_aload_n hx hb dX1_append_19 rfl (lv_at hl 0 rfl) ?_
    refine gf_X1_15 hx hb hg hown hK hP 0 rfl rfl dX1_append_20 ?_
    refine lv_aload_n hx hb dX1_append_23 rfl (lv_at hl 0 rfl) ?_
    refine gf_X1_18 hx hb hg hown hK hP 0 rfl rfl dX1_append_24 ?_
    refine lv_iload_n hx hb dX1_append_27 rfl (lv_at hl 2 rfl) ?_
    refine ast hx hb hK hP hD hS 2 rfl rfl (by omega) dX1_append_28 (fun H locs hP hD hS => ?_)
    have hP : va_P D vwCl [(a0, .inr (1, [.ref a1, .ref a2, .int (nI n)])), (a1, oI cI 60 (upd P n (x))), (a2, oI cI 60 (upd L n (y)))] H := hP
    have hD : va_D A [(a0, .inr (1, [.ref a1, .ref a2, .int (nI n)])), (a1, oI cI 60 (upd P n (x))), (a2, oI cI 60 (upd L n (y)))] := hD
    refine lv_aload_n hx hb dX1_append_29 rfl (lv_at hl 0 rfl) ?_
    refine lv_dup hx hb dX1_append_30 rfl ?_
    refine gf_X1_18 hx hb hg hown hK hP 0 rfl rfl dX1_append_31 ?_
    refine lv_iconst (v := nI 1) hx hb dX1_append_34 (by decide) ?_
    refine lv_iadd hx hb dX1_append_35 ?_
    refine lv_asi (nI_add _ _) ?_
    refine pf_X1_18 hx hb hg hown hK hP hD hS 0 rfl (Nat.le_of_ble_eq_true rfl) dX1_append_36 (fun H locs hP hD hS => ?_)
    have hP : va_P D vwCl [(a0, .inr (1, [.ref a1, .ref a2, .int (nI (n + 1))])), (a1, oI cI 60 (upd P n (x))), (a2, oI cI 60 (upd L n (y)))] H := hP
    have hD : va_D A [(a0, .inr (1, [.ref a1, .ref a2, .int (nI (n + 1))])), (a1, oI cI 60 (upd P n (x))), (a2, oI cI 60 (upd L n (y)))] := hD
    exact hret _ _ 39 _ (()) (trivial) hP hD hS dX1_append_39

set_option maxHeartbeats 4000000 in
set_option maxRecDepth 100000 in
/-- PlaceList.append -/
theorem k_X3_append (l : Launch) (D : va_G) (cI : ClassId) (a0 a1 n : Nat) (f : Nat → Int32) (x : Int32) (hn : n < 60) : Cv l yX3_append cX3_append 2 0 0 0 D (tI cI) [.ref a0, .int x] [(a0, .inr (3, [.ref a1, .int (nI n)])), (a1, oI cI 60 f)] (S := Unit) (fun _ => True) (fun u => [(a0, .inr (3, [.ref a1, .int (nI (n + 1))])), (a1, oI cI 60 (upd f n x))]) := by
  refine Cv.of (own := RX3) (lv := [(0, .ref a0), (1, .int x)]) (by decide +kernel) rfl (Nat.le_of_ble_eq_true rfl) rfl ?_
  intro p e s m args below meth c Q A cx hin hK hP hD hA hret ls hl
  obtain ⟨hx, hb, hml, hown, hg⟩ := id cx
  have hS : va_S A s.heap s.heap [] := va_S.rf
  refine lv_aload_n hx hb dX3_append_0 rfl (lv_at hl 0 rfl) ?_
  refine gf_X3_15 hx hb hg hown hK hP 0 rfl rfl dX3_append_1 ?_
  refine lv_bipush (v := nI 60) hx hb dX3_append_4 (by decide) ?_
  refine lv_icmp_ge (tgt := 29) hx hb dX3_append_6 (by decide) (fun c6 => ?_) (fun c6 => ?_)
  · have c6 := (nI_leI (by omega) (by omega)).mp c6
    exfalso; omega
  · have c6 := mt (nI_leI (by omega) (by omega)).mpr c6
    refine lv_aload_n hx hb dX3_append_9 rfl (lv_at hl 0 rfl) ?_
    refine gf_X3_9 hx hb hg hown hK hP 0 rfl rfl dX3_append_10 ?_
    refine lv_aload_n hx hb dX3_append_13 rfl (lv_at hl 0 rfl) ?_
    refine gf_X3_15 hx hb hg hown hK hP 0 rfl rfl dX3_append_14 ?_
    refine lv_iload_n hx hb dX3_append_17 rfl (lv_at hl 1 rfl) ?_
    refine ast hx hb hK hP hD hS 1 rfl rfl (by omega) dX3_append_18 (fun H locs hP hD hS => ?_)
    have hP : va_P D vwCl [(a0, .inr (3, [.ref a1, .int (nI n)])), (a1, oI cI 60 (upd f n (x)))] H := hP
    have hD : va_D A [(a0, .inr (3, [.ref a1, .int (nI n)])), (a1, oI cI 60 (upd f n (x)))] := hD
    refine lv_aload_n hx hb dX3_append_19 rfl (lv_at hl 0 rfl) ?_
    refine lv_dup hx hb dX3_append_20 rfl ?_
    refine gf_X3_15 hx hb hg hown hK hP 0 rfl rfl dX3_append_21 ?_
    refine lv_iconst (v := nI 1) hx hb dX3_append_24 (by decide) ?_
    refine lv_iadd hx hb dX3_append_25 ?_
    refine lv_asi (nI_add _ _) ?_
    refine pf_X3_15 hx hb hg hown hK hP hD hS 0 rfl (Nat.le_of_ble_eq_true rfl) dX3_append_26 (fun H locs hP hD hS => ?_)
    have hP : va_P D vwCl [(a0, .inr (3, [.ref a1, .int (nI (n + 1))])), (a1, oI cI 60 (upd f n (x)))] H := hP
    have hD : va_D A [(a0, .inr (3, [.ref a1, .int (nI (n + 1))])), (a1, oI cI 60 (upd f n (x)))] := hD
    exact hret _ _ 29 _ (()) (trivial) hP hD hS dX3_append_29

set_option maxHeartbeats 4000000 in
set_option maxRecDepth 100000 in
/-- ItemRow.read -/
theorem k_X0_read (l : Launch) (D : va_G) (cI : ClassId) (a0 a1 : Nat) (z : Int32) (f : Nat → Int32) (b0 b1 b2 n : Nat) (P L : Nat → Int32) (v : Nat) (hv : v ≤ 4) (hn : n ≤ 60) : Cv l yX0_read cX0_read 4 2 0 0 D (tI cI) [.ref a0, .ref b0, .int (nI v)] [(a0, .inr (0, [.ref a1, .int z])), (a1, oI cI 60 f), (b0, .inr (1, [.ref b1, .ref b2, .int (nI n)])), (b1, oI cI 60 P), (b2, oI cI 60 L)] (S := Unit) (fun _ => True) (fun u => [(a0, .inr (0, [.ref a1, .int (nI (ff_cnt v n))])), (a1, oI cI 60 (ff_fill (ff_it P L v) f (ff_cnt v n))), (b0, .inr (1, [.ref b1, .ref b2, .int (nI n)])), (b1, oI cI 60 P), (b2, oI cI 60 L)]) := by
  refine Cv.of (own := RX0) (lv := [(0, .ref a0), (1, .ref b0), (2, .int (nI v))]) (by decide +kernel) rfl (Nat.le_of_ble_eq_true rfl) rfl ?_
  intro p e s m args below meth c Q A cx hin hK hP hD hA hret ls hl
  obtain ⟨hx, hb, hml, hown, hg⟩ := id cx
  have hS : va_S A s.heap s.heap [] := va_S.rf
  refine lv_aload_n hx hb dX0_read_0 rfl (lv_at hl 0 rfl) ?_
  refine lv_aload_n hx hb dX0_read_1 rfl (lv_at hl 1 rfl) ?_
  refine lv_iload_n hx hb dX0_read_2 rfl (lv_at hl 2 rfl) ?_
  refine Cp.callS (As := [.ref b0, .int (nI v)]) (rest := [.ref a0]) (cv_X0_36 hg ⟨Nat.le_of_ble_eq_true rfl, Nat.le_of_ble_eq_true rfl⟩) (k_X0_countIn l D cI b0 b1 b2 n P L v hv hn) cx hK hP [2, 3, 4] rfl hS rfl hl.1 rfl (Nat.le_of_ble_eq_true rfl) dX0_read_3 ⟨Nat.zero_le _, Nat.zero_le _⟩ (fun H locs hP hS => ?_)
  refine pf_X0_40 hx hb hg hown hK hP hD hS 0 rfl (Nat.le_of_ble_eq_true rfl) dX0_read_6 (fun H locs hP hD hS => ?_)
  have hP : va_P D vwCl [(a0, .inr (0, [.ref a1, .int (nI (ff_cnt v n))])), (a1, oI cI 60 f), (b0, .inr (1, [.ref b1, .ref b2, .int (nI n)])), (b1, oI cI 60 P), (b2, oI cI 60 L)] H := hP
  have hD : va_D A [(a0, .inr (0, [.ref a1, .int (nI (ff_cnt v n))])), (a1, oI cI 60 f), (b0, .inr (1, [.ref b1, .ref b2, .int (nI n)])), (b1, oI cI 60 P), (b2, oI cI 60 L)] := hD
  refine lv_iconst (v := nI 0) hx hb dX0_read_9 (by decide) ?_
  refine lv_istore_n (lv' := [(3, .int (nI 0)), (0, .ref a0), (1, .ref b0), (2, .int (nI v))]) hx hb dX0_read_10 rfl hl (by decide) rfl (fun ls hl => ?_)
  have hcn := ff_cnt_le v n
  rw [← ff_fill_0 (ff_it P L v) f] at hP hD
  have lp_11 : ∀ (k : Nat) (i : Nat) (H : Heap) (locs : List Loc) (ls : Array Slot), (i ≤ ff_cnt v n) → (ff_cnt v n - i < k) → va_P D vwCl [(a0, .inr (0, [.ref a1, .int (nI (ff_cnt v n))])), (a1, oI cI 60 (ff_fill (ff_it P L v) f i)), (b0, .inr (1, [.ref b1, .ref b2, .int (nI n)])), (b1, oI cI 60 P), (b2, oI cI 60 L)] H → va_D A [(a0, .inr (0, [.ref a1, .int (nI (ff_cnt v n))])), (a1, oI cI 60 (ff_fill (ff_it P L v) f i)), (b0, .inr (1, [.ref b1, .ref b2, .int (nI n)])), (b1, oI cI 60 P), (b2, oI cI 60 L)] → va_S A s.heap H locs → lv_has ls 4 [(0, .ref a0), (1, .ref b0), (2, .int (nI v)), (3, .int (nI i))] → W p l e (rr 2 0 0) s m args below meth c H locs 0 0 Q (F0 m 11 ls []) := by
    intro k
    induction k with
    | zero =>
      intro i H locs ls hi hk
      exact absurd hk (Nat.not_lt_zero _)
    | succ k ih_11 =>
      intro i H locs ls hi hk hP hD hS hl
      refine lv_iload_n hx hb dX0_read_11 rfl (lv_at hl 3 rfl) ?_
      refine lv_aload_n hx hb dX0_read_12 rfl (lv_at hl 0 rfl) ?_
      refine gf_X0_40 hx hb hg hown hK hP 0 rfl rfl dX0_read_13 ?_
      refine lv_icmp_ge (tgt := 37) hx hb dX0_read_16 (by decide) (fun c16 => ?_) (fun c16 => ?_)
      · have c16 := (nI_leI (by omega) (by omega)).mp c16
        obtain rfl : i = ff_cnt v n := by omega
        exact hret _ _ 37 _ (()) (trivial) hP hD hS dX0_read_37
      · have c16 := mt (nI_leI (by omega) (by omega)).mpr c16
        refine lv_aload_n hx hb dX0_read_19 rfl (lv_at hl 0 rfl) ?_
        refine gf_X0_9 hx hb hg hown hK hP 0 rfl rfl dX0_read_20 ?_
        refine lv_iload_n hx hb dX0_read_23 rfl (lv_at hl 3 rfl) ?_
        refine lv_aload_n hx hb dX0_read_24 rfl (lv_at hl 1 rfl) ?_
        refine lv_iload_n hx hb dX0_read_25 rfl (lv_at hl 2 rfl) ?_
        refine lv_iload_n hx hb dX0_read_26 rfl (lv_at hl 3 rfl) ?_
        refine Cp.callS (As := [.ref b0, .int (nI v), .int (nI i)]) (rest := [.int (nI i), .ref a1]) (cv_X0_41 hg ⟨Nat.le_of_ble_eq_true rfl, Nat.le_of_ble_eq_true rfl⟩) (k_X0_valueIn l D cI b0 b1 b2 n P L v i hv (ff_cnt_ix (by omega) hn)) cx hK hP [2, 3, 4] rfl hS rfl hl.1 rfl (Nat.le_of_ble_eq_true rfl) dX0_read_27 ⟨Nat.zero_le _, Nat.zero_le _⟩ (fun H locs hP hS => ?_)
        refine ast hx hb hK hP hD hS 1 rfl rfl (by omega) dX0_read_30 (fun H locs hP hD hS => ?_)
        have hP : va_P D vwCl [(a0, .inr (0, [.ref a1, .int (nI (ff_cnt v n))])), (a1, oI cI 60 (upd (ff_fill (ff_it P L v) f i) i ((ff_it P L v i)))), (b0, .inr (1, [.ref b1, .ref b2, .int (nI n)])), (b1, oI cI 60 P), (b2, oI cI 60 L)] H := hP
        have hD : va_D A [(a0, .inr (0, [.ref a1, .int (nI (ff_cnt v n))])), (a1, oI cI 60 (upd (ff_fill (ff_it P L v) f i) i ((ff_it P L v i)))), (b0, .inr (1, [.ref b1, .ref b2, .int (nI n)])), (b1, oI cI 60 P), (b2, oI cI 60 L)] := hD
        have e9 : upd (ff_fill (ff_it P L v) f i) i ((ff_it P L v i)) = ff_fill (ff_it P L v) f (i + 1) := ff_fill_s _ _ _
        rw [e9] at hP hD
        refine lv_iinc (v := nI (i + 1)) (lv' := [(3, .int (nI (i + 1))), (0, .ref a0), (1, .ref b0), (2, .int (nI v))]) hx hb dX0_read_31 hl (k := 3) rfl (nI_1 _) (by decide) rfl (fun ls hl => ?_)
        refine lv_goto (tgt := 11) hx hb dX0_read_34 (by decide) ?_
        exact ih_11 (i + 1) _ _ _ (by omega) (by omega) hP hD hS (lv_sub hl [1, 2, 3, 0] rfl)
  exact lp_11 (_ + 1) (0) _ _ _ (Nat.zero_le _) (Nat.lt_succ_self _) hP hD hS (lv_sub hl [1, 2, 3, 0] rfl)

set_option maxHeartbeats 4000000 in
set_option maxRecDepth 100000 in
/-- RepeatList.partOf -/
theorem k_X4_partOf (l : Launch) (D : va_G) (cI : ClassId) (a0 a1 a2 : Nat) (z : Int32) (g sl : Nat → Int32) (q w : Nat) (h : 3 * q + w < 2700) : Cp l yX4_partOf cX4_partOf 3 (some .int) 0 D (tI cI) [.ref a0, .int (nI q), .int (nI w)] [(a0, .inr (4, [.ref a1, .ref a2, .int z])), (a1, oI cI 2700 g), (a2, oI cI 60 sl)] (g (3 * q + w)) := by
  refine Cp.of (own := RX4) (lv := [(0, .ref a0), (1, .int (nI q)), (2, .int (nI w))]) (by decide +kernel) rfl (Nat.le_of_ble_eq_true rfl) rfl (vp_nar_int _) ?_
  intro p e s m args below meth c Q cx hK hP hret ls hl
  obtain ⟨hx, hb, hml, hown, hg⟩ := id cx
  have hS : va_S (fun _ => False) s.heap s.heap [] := va_S.rf
  refine lv_aload_n hx hb dX4_partOf_0 rfl (lv_at hl 0 rfl) ?_
  refine gf_X4_11 hx hb hg hown hK hP 0 rfl rfl dX4_partOf_1 ?_
  refine lv_iconst (v := nI 3) hx hb dX4_partOf_4 (by decide) ?_
  refine lv_iload_n hx hb dX4_partOf_5 rfl (lv_at hl 1 rfl) ?_
  refine lv_imul hx hb dX4_partOf_6 ?_
  refine lv_asi (pk_mul _ _) ?_
  refine lv_iload_n hx hb dX4_partOf_7 rfl (lv_at hl 2 rfl) ?_
  refine lv_iadd hx hb dX4_partOf_8 ?_
  refine lv_asi (nI_add _ _) ?_
  refine ald hx hb hK hP 1 rfl rfl (by omega) dX4_partOf_9 ?_
  exact hret _ _ 10 _ _ hS dX4_partOf_10 (rfl)

set_option maxHeartbeats 4000000 in
set_option maxRecDepth 100000 in
/-- RepeatList.put -/
theorem k_X4_put (l : Launch) (D : va_G) (cI : ClassId) (a0 a1 a2 : Nat) (z : Int32) (g sl : Nat → Int32) (q : Nat) (i j w : Int32) (hq : q < 900) : Cv l yX4_put cX4_put 5 0 0 0 D (tI cI) [.ref a0, .int (nI q), .int i, .int j, .int w] [(a0, .inr (4, [.ref a1, .ref a2, .int z])), (a1, oI cI 2700 g), (a2, oI cI 60 sl)] (S := Unit) (fun _ => True) (fun u => [(a0, .inr (4, [.ref a1, .ref a2, .int z])), (a1, oI cI 2700 (upd (upd (upd g (3 * q) i) (3 * q + 1) j) (3 * q + 2) w)), (a2, oI cI 60 sl)]) := by
  refine Cv.of (own := RX4) (lv := [(0, .ref a0), (1, .int (nI q)), (2, .int i), (3, .int j), (4, .int w)]) (by decide +kernel) rfl (Nat.le_of_ble_eq_true rfl) rfl ?_
  intro p e s m args below meth c Q A cx hin hK hP hD hA hret ls hl
  obtain ⟨hx, hb, hml, hown, hg⟩ := id cx
  have hS : va_S A s.heap s.heap [] := va_S.rf
  refine lv_iload_n hx hb dX4_put_0 rfl (lv_at hl 1 rfl) ?_
  refine lv_sipush (v := nI 900) hx hb dX4_put_1 (by decide) ?_
  refine lv_icmp_ge (tgt := 39) hx hb dX4_put_4 (by decide) (fun c4 => ?_) (fun c4 => ?_)
  · have c4 := (nI_leI (by omega) (by omega)).mp c4
    exfalso; omega
  · have c4 := mt (nI_leI (by omega) (by omega)).mpr c4
    refine lv_aload_n hx hb dX4_put_7 rfl (lv_at hl 0 rfl) ?_
    refine gf_X4_11 hx hb hg hown hK hP 0 rfl rfl dX4_put_8 ?_
    refine lv_iconst (v := nI 3) hx hb dX4_put_11 (by decide) ?_
    refine lv_iload_n hx hb dX4_put_12 rfl (lv_at hl 1 rfl) ?_
    refine lv_imul hx hb dX4_put_13 ?_
    refine lv_asi (pk_mul _ _) ?_
    refine lv_iload_n hx hb dX4_put_14 rfl (lv_at hl 2 rfl) ?_
    refine ast hx hb hK hP hD hS 1 rfl rfl (by omega) dX4_put_15 (fun H locs hP hD hS => ?_)
    have hP : va_P D vwCl [(a0, .inr (4, [.ref a1, .ref a2, .int z])), (a1, oI cI 2700 (upd g (3 * q) (i))), (a2, oI cI 60 sl)] H := hP
    have hD : va_D A [(a0, .inr (4, [.ref a1, .ref a2, .int z])), (a1, oI cI 2700 (upd g (3 * q) (i))), (a2, oI cI 60 sl)] := hD
    refine lv_aload_n hx hb dX4_put_16 rfl (lv_at hl 0 rfl) ?_
    refine gf_X4_11 hx hb hg hown hK hP 0 rfl rfl dX4_put_17 ?_
    refine lv_iconst (v := nI 3) hx hb dX4_put_20 (by decide) ?_
    refine lv_iload_n hx hb dX4_put_21 rfl (lv_at hl 1 rfl) ?_
    refine lv_imul hx hb dX4_put_22 ?_
    refine lv_asi (pk_mul _ _) ?_
    refine lv_iconst (v := nI 1) hx hb dX4_put_23 (by decide) ?_
    refine lv_iadd hx hb dX4_put_24 ?_
    refine lv_asi (nI_add _ _) ?_
    refine lv_iload_n hx hb dX4_put_25 rfl (lv_at hl 3 rfl) ?_
    refine ast hx hb hK hP hD hS 1 rfl rfl (by omega) dX4_put_26 (fun H locs hP hD hS => ?_)
    have hP : va_P D vwCl [(a0, .inr (4, [.ref a1, .ref a2, .int z])), (a1, oI cI 2700 (upd (upd g (3 * q) (i)) (3 * q + 1) (j))), (a2, oI cI 60 sl)] H := hP
    have hD : va_D A [(a0, .inr (4, [.ref a1, .ref a2, .int z])), (a1, oI cI 2700 (upd (upd g (3 * q) (i)) (3 * q + 1) (j))), (a2, oI cI 60 sl)] := hD
    refine lv_aload_n hx hb dX4_put_27 rfl (lv_at hl 0 rfl) ?_
    refine gf_X4_11 hx hb hg hown hK hP 0 rfl rfl dX4_put_28 ?_
    refine lv_iconst (v := nI 3) hx hb dX4_put_31 (by decide) ?_
    refine lv_iload_n hx hb dX4_put_32 rfl (lv_at hl 1 rfl) ?_
    refine lv_imul hx hb dX4_put_33 ?_
    refine lv_asi (pk_mul _ _) ?_
    refine lv_iconst (v := nI 2) hx hb dX4_put_34 (by decide) ?_
    refine lv_iadd hx hb dX4_put_35 ?_
    refine lv_asi (nI_add _ _) ?_
    refine lv_iload hx hb dX4_put_36 (lv_at hl 4 rfl) ?_
    refine ast hx hb hK hP hD hS 1 rfl rfl (by omega) dX4_put_38 (fun H locs hP hD hS => ?_)
    have hP : va_P D vwCl [(a0, .inr (4, [.ref a1, .ref a2, .int z])), (a1, oI cI 2700 (upd (upd (upd g (3 * q) (i)) (3 * q + 1) (j)) (3 * q + 2) (w))), (a2, oI cI 60 sl)] H := hP
    have hD : va_D A [(a0, .inr (4, [.ref a1, .ref a2, .int z])), (a1, oI cI 2700 (upd (upd (upd g (3 * q) (i)) (3 * q + 1) (j)) (3 * q + 2) (w))), (a2, oI cI 60 sl)] := hD
    exact hret _ _ 39 _ (()) (trivial) hP hD hS dX4_put_39

set_option maxHeartbeats 4000000 in
set_option maxRecDepth 100000 in
theorem k_isWithin (l : Launch) (D : va_G) (cI : ClassId) (W0 : va_W) (x lo hi : Int32) : Cp l yX5_isWithin cX5_isWithin 3 (some .boolean) 0 D (tI cI) [.int x, .int lo, .int hi] W0 (bI (lo ≤ x ∧ x ≤ hi)) := by
  refine Cp.of (own := RX5) (lv := [(0, .int x), (1, .int lo), (2, .int hi)]) (by decide +kernel) rfl (Nat.le_of_ble_eq_true rfl) rfl (bI_nar _) ?_
  intro p e s m args below meth c Q cx hK hP hret ls hl
  obtain ⟨hx, hb, hml, hown, hg⟩ := id cx
  have hS : va_S (fun _ => False) s.heap s.heap [] := va_S.rf
  refine lv_iload_n hx hb dX5_isWithin_0 rfl (lv_at hl 0 rfl) ?_
  refine lv_iload_n hx hb dX5_isWithin_1 rfl (lv_at hl 1 rfl) ?_
  refine lv_icmp_lt (tgt := 14) hx hb dX5_isWithin_2 (by decide) (fun c2 => ?_) (fun c2 => ?_)
  · skip
    refine lv_iconst (v := nI 0) hx hb dX5_isWithin_14 (by decide) ?_
    exact hret _ _ 15 _ _ hS dX5_isWithin_15 (by first | exact bI_1 ⟨i_nlt.mp c2, i_nlt.mp c7⟩ | exact bI_0 (fun h => i_nlt.mpr h.1 c2) | exact bI_0 (fun h => i_nlt.mpr h.2 c7))
  · skip
    refine lv_iload_n hx hb dX5_isWithin_5 rfl (lv_at hl 0 rfl) ?_
    refine lv_iload_n hx hb dX5_isWithin_6 rfl (lv_at hl 2 rfl) ?_
    refine lv_icmp_gt (tgt := 14) hx hb dX5_isWithin_7 (by decide) (fun c7 => ?_) (fun c7 => ?_)
    · skip
      refine lv_iconst (v := nI 0) hx hb dX5_isWithin_14 (by decide) ?_
      exact hret _ _ 15 _ _ hS dX5_isWithin_15 (by first | exact bI_1 ⟨i_nlt.mp c2, i_nlt.mp c7⟩ | exact bI_0 (fun h => i_nlt.mpr h.1 c2) | exact bI_0 (fun h => i_nlt.mpr h.2 c7))
    · skip
      refine lv_iconst (v := nI 1) hx hb dX5_isWithin_10 (by decide) ?_
      refine lv_goto (tgt := 15) hx hb dX5_isWithin_11 (by decide) ?_
      exact hret _ _ 15 _ _ hS dX5_isWithin_15 (by first | exact bI_1 ⟨i_nlt.mp c2, i_nlt.mp c7⟩ | exact bI_0 (fun h => i_nlt.mpr h.1 c2) | exact bI_0 (fun h => i_nlt.mpr h.2 c7))

set_option maxHeartbeats 4000000 in
set_option maxRecDepth 100000 in
theorem k_isView (l : Launch) (D : va_G) (cI : ClassId) (W0 : va_W) (x : Int32) : Cp l yX5_isView cX5_isView 1 (some .boolean) 1 D (tI cI) [.int x] W0 (bI (nI 0 ≤ x ∧ x ≤ nI 4)) := by
  refine Cp.of (own := RX5) (lv := [(0, .int x)]) (by decide +kernel) rfl (Nat.le_of_ble_eq_true rfl) rfl (bI_nar _) ?_
  intro p e s m args below meth c Q cx hK hP hret ls hl
  obtain ⟨hx, hb, hml, hown, hg⟩ := id cx
  have hS : va_S (fun _ => False) s.heap s.heap [] := va_S.rf
  refine lv_iload_n hx hb dX5_isView_0 rfl (lv_at hl 0 rfl) ?_
  refine lv_iconst (v := nI 0) hx hb dX5_isView_1 (by decide) ?_
  refine lv_iconst (v := nI 4) hx hb dX5_isView_2 (by decide) ?_
  refine Cp.callS (As := [.int x, .int (nI 0), .int (nI 4)]) (rest := []) (cv_X5_60 hg ⟨Nat.le_of_ble_eq_true rfl, Nat.le_of_ble_eq_true rfl⟩) (k_isWithin l D cI [] (x) (nI 0) (nI 4)) cx hK hP [] rfl hS rfl hl.1 rfl (Nat.le_of_ble_eq_true rfl) dX5_isView_3 ⟨Nat.zero_le _, Nat.zero_le _⟩ (fun H locs hP hS => ?_)
  exact hret _ _ 6 _ _ hS dX5_isView_6 (rfl)

set_option maxHeartbeats 4000000 in
set_option maxRecDepth 100000 in
theorem k_isForm (l : Launch) (D : va_G) (cI : ClassId) (W0 : va_W) (x : Int32) : Cp l yX5_isForm cX5_isForm 1 (some .boolean) 1 D (tI cI) [.int x] W0 (bI (nI 0 ≤ x ∧ x ≤ nI 3)) := by
  refine Cp.of (own := RX5) (lv := [(0, .int x)]) (by decide +kernel) rfl (Nat.le_of_ble_eq_true rfl) rfl (bI_nar _) ?_
  intro p e s m args below meth c Q cx hK hP hret ls hl
  obtain ⟨hx, hb, hml, hown, hg⟩ := id cx
  have hS : va_S (fun _ => False) s.heap s.heap [] := va_S.rf
  refine lv_iload_n hx hb dX5_isForm_0 rfl (lv_at hl 0 rfl) ?_
  refine lv_iconst (v := nI 0) hx hb dX5_isForm_1 (by decide) ?_
  refine lv_iconst (v := nI 3) hx hb dX5_isForm_2 (by decide) ?_
  refine Cp.callS (As := [.int x, .int (nI 0), .int (nI 3)]) (rest := []) (cv_X5_60 hg ⟨Nat.le_of_ble_eq_true rfl, Nat.le_of_ble_eq_true rfl⟩) (k_isWithin l D cI [] (x) (nI 0) (nI 3)) cx hK hP [] rfl hS rfl hl.1 rfl (Nat.le_of_ble_eq_true rfl) dX5_isForm_3 ⟨Nat.zero_le _, Nat.zero_le _⟩ (fun H locs hP hS => ?_)
  exact hret _ _ 6 _ _ hS dX5_isForm_6 (rfl)

set_option maxHeartbeats 4000000 in
set_option maxRecDepth 100000 in
theorem k_isScale (l : Launch) (D : va_G) (cI : ClassId) (W0 : va_W) (x y : Int32) : Cp l yX5_isScale cX5_isScale 3 (some .boolean) 1 D (tI cI) [.int x, .int y] W0 (bI ((x = 0 ∧ y = 0) ∨ ((nI 1 ≤ x ∧ x ≤ nI 9) ∧ (nI 1 ≤ y ∧ y ≤ nI 9)))) := by
  refine Cp.of (own := RX5) (lv := [(0, .int x), (1, .int y)]) (by decide +kernel) rfl (Nat.le_of_ble_eq_true rfl) rfl (bI_nar _) ?_
  intro p e s m args below meth c Q cx hK hP hret ls hl
  obtain ⟨hx, hb, hml, hown, hg⟩ := id cx
  have hS : va_S (fun _ => False) s.heap s.heap [] := va_S.rf
  refine lv_iload_n hx hb dX5_isScale_0 rfl (lv_at hl 0 rfl) ?_
  refine lv_if_ne (tgt := 12) hx hb dX5_isScale_1 (by decide) (fun c1 => ?_) (fun c1 => ?_)
  · skip
    refine lv_iconst (v := nI 0) hx hb dX5_isScale_12 (by decide) ?_
    refine lv_istore_n (lv' := [(2, .int (nI 0)), (0, .int x), (1, .int y)]) hx hb dX5_isScale_13 rfl hl (by decide) rfl (fun ls hl => ?_)
    refine lv_iload_n hx hb dX5_isScale_14 rfl (lv_at hl 0 rfl) ?_
    refine lv_if_ne (tgt := 38) hx hb dX5_isScale_15 (by decide) (fun h9 => absurd (by decide) h9) (fun _ => ?_)
    refine lv_iload_n hx hb dX5_isScale_18 rfl (lv_at hl 1 rfl) ?_
    refine lv_iconst (v := nI 1) hx hb dX5_isScale_19 (by decide) ?_
    refine lv_bipush (v := nI 9) hx hb dX5_isScale_20 (by decide) ?_
    refine Cp.callS (As := [.int x, .int (nI 1), .int (nI 9)]) (rest := []) (cv_X5_60 hg ⟨Nat.le_of_ble_eq_true rfl, Nat.le_of_ble_eq_true rfl⟩) (k_isWithin l D cI [] (x) (nI 1) (nI 9)) cx hK hP [] rfl hS rfl hl.1 rfl (Nat.le_of_ble_eq_true rfl) dX5_isScale_22 ⟨Nat.zero_le _, Nat.zero_le _⟩ (fun H locs hP hS => ?_)
    refine lv_if_eq (tgt := 42) hx hb dX5_isScale_25 (by decide) (fun c25 => ?_) (fun c25 => ?_)
    · have c25 := bI_z.mp c25
      refine lv_iconst (v := nI 0) hx hb dX5_isScale_42 (by decide) ?_
      exact hret _ _ 43 _ _ hS dX5_isScale_43 (by first | exact bI_1 (Or.inl ⟨c1, c5⟩) | exact bI_1 (Or.inr ⟨c25, c35⟩) | exact bI_0 (fun h => h.elim (fun h => by first | exact c1 h.1 | exact c5 h.2) (fun h => by first | exact c25 h.1 | exact c35 h.2)))
    · have c25 := bI_nz.mp c25
      refine lv_iload_n hx hb dX5_isScale_28 rfl (lv_at hl 2 rfl) ?_
      refine lv_iconst (v := nI 1) hx hb dX5_isScale_29 (by decide) ?_
      refine lv_bipush (v := nI 9) hx hb dX5_isScale_30 (by decide) ?_
      refine Cp.callS (As := [.int y, .int (nI 1), .int (nI 9)]) (rest := []) (cv_X5_60 hg ⟨Nat.le_of_ble_eq_true rfl, Nat.le_of_ble_eq_true rfl⟩) (k_isWithin l D cI [] (y) (nI 1) (nI 9)) cx hK hP [] rfl hS rfl hl.1 rfl (Nat.le_of_ble_eq_true rfl) dX5_isScale_32 ⟨Nat.zero_le _, Nat.zero_le _⟩ (fun H locs hP hS => ?_)
      refine lv_if_eq (tgt := 42) hx hb dX5_isScale_35 (by decide) (fun c35 => ?_) (fun c35 => ?_)
      · have c35 := bI_z.mp c35
        refine lv_iconst (v := nI 0) hx hb dX5_isScale_42 (by decide) ?_
        exact hret _ _ 43 _ _ hS dX5_isScale_43 (by first | exact bI_1 (Or.inl ⟨c1, c5⟩) | exact bI_1 (Or.inr ⟨c25, c35⟩) | exact bI_0 (fun h => h.elim (fun h => by first | exact c1 h.1 | exact c5 h.2) (fun h => by first | exact c25 h.1 | exact c35 h.2)))
      · have c35 := bI_nz.mp c35
        refine lv_iconst (v := nI 1) hx hb dX5_isScale_38 (by decide) ?_
        refine lv_goto (tgt := 43) hx hb dX5_isScale_39 (by decide) ?_
        exact hret _ _ 43 _ _ hS dX5_isScale_43 (by first | exact bI_1 (Or.inl ⟨c1, c5⟩) | exact bI_1 (Or.inr ⟨c25, c35⟩) | exact bI_0 (fun h => h.elim (fun h => by first | exact c1 h.1 | exact c5 h.2) (fun h => by first | exact c25 h.1 | exact c35 h.2)))
  · skip
    refine lv_iload_n hx hb dX5_isScale_4 rfl (lv_at hl 1 rfl) ?_
    refine lv_if_ne (tgt := 12) hx hb dX5_isScale_5 (by decide) (fun c5 => ?_) (fun c5 => ?_)
    · skip
      refine lv_iconst (v := nI 0) hx hb dX5_isScale_12 (by decide) ?_
      refine lv_istore_n (lv' := [(2, .int (nI 0)), (0, .int x), (1, .int y)]) hx hb dX5_isScale_13 rfl hl (by decide) rfl (fun ls hl => ?_)
      refine lv_iload_n hx hb dX5_isScale_14 rfl (lv_at hl 0 rfl) ?_
      refine lv_if_ne (tgt := 38) hx hb dX5_isScale_15 (by decide) (fun h9 => absurd (by decide) h9) (fun _ => ?_)
      refine lv_iload_n hx hb dX5_isScale_18 rfl (lv_at hl 1 rfl) ?_
      refine lv_iconst (v := nI 1) hx hb dX5_isScale_19 (by decide) ?_
      refine lv_bipush (v := nI 9) hx hb dX5_isScale_20 (by decide) ?_
      refine Cp.callS (As := [.int x, .int (nI 1), .int (nI 9)]) (rest := []) (cv_X5_60 hg ⟨Nat.le_of_ble_eq_true rfl, Nat.le_of_ble_eq_true rfl⟩) (k_isWithin l D cI [] (x) (nI 1) (nI 9)) cx hK hP [] rfl hS rfl hl.1 rfl (Nat.le_of_ble_eq_true rfl) dX5_isScale_22 ⟨Nat.zero_le _, Nat.zero_le _⟩ (fun H locs hP hS => ?_)
      refine lv_if_eq (tgt := 42) hx hb dX5_isScale_25 (by decide) (fun c25 => ?_) (fun c25 => ?_)
      · have c25 := bI_z.mp c25
        refine lv_iconst (v := nI 0) hx hb dX5_isScale_42 (by decide) ?_
        exact hret _ _ 43 _ _ hS dX5_isScale_43 (by first | exact bI_1 (Or.inl ⟨c1, c5⟩) | exact bI_1 (Or.inr ⟨c25, c35⟩) | exact bI_0 (fun h => h.elim (fun h => by first | exact c1 h.1 | exact c5 h.2) (fun h => by first | exact c25 h.1 | exact c35 h.2)))
      · have c25 := bI_nz.mp c25
        refine lv_iload_n hx hb dX5_isScale_28 rfl (lv_at hl 2 rfl) ?_
        refine lv_iconst (v := nI 1) hx hb dX5_isScale_29 (by decide) ?_
        refine lv_bipush (v := nI 9) hx hb dX5_isScale_30 (by decide) ?_
        refine Cp.callS (As := [.int y, .int (nI 1), .int (nI 9)]) (rest := []) (cv_X5_60 hg ⟨Nat.le_of_ble_eq_true rfl, Nat.le_of_ble_eq_true rfl⟩) (k_isWithin l D cI [] (y) (nI 1) (nI 9)) cx hK hP [] rfl hS rfl hl.1 rfl (Nat.le_of_ble_eq_true rfl) dX5_isScale_32 ⟨Nat.zero_le _, Nat.zero_le _⟩ (fun H locs hP hS => ?_)
        refine lv_if_eq (tgt := 42) hx hb dX5_isScale_35 (by decide) (fun c35 => ?_) (fun c35 => ?_)
        · have c35 := bI_z.mp c35
          refine lv_iconst (v := nI 0) hx hb dX5_isScale_42 (by decide) ?_
          exact hret _ _ 43 _ _ hS dX5_isScale_43 (by first | exact bI_1 (Or.inl ⟨c1, c5⟩) | exact bI_1 (Or.inr ⟨c25, c35⟩) | exact bI_0 (fun h => h.elim (fun h => by first | exact c1 h.1 | exact c5 h.2) (fun h => by first | exact c25 h.1 | exact c35 h.2)))
        · have c35 := bI_nz.mp c35
          refine lv_iconst (v := nI 1) hx hb dX5_isScale_38 (by decide) ?_
          refine lv_goto (tgt := 43) hx hb dX5_isScale_39 (by decide) ?_
          exact hret _ _ 43 _ _ hS dX5_isScale_43 (by first | exact bI_1 (Or.inl ⟨c1, c5⟩) | exact bI_1 (Or.inr ⟨c25, c35⟩) | exact bI_0 (fun h => h.elim (fun h => by first | exact c1 h.1 | exact c5 h.2) (fun h => by first | exact c25 h.1 | exact c35 h.2)))
    · skip
      refine lv_iconst (v := nI 1) hx hb dX5_isScale_8 (by decide) ?_
      refine lv_goto (tgt := 13) hx hb dX5_isScale_9 (by decide) ?_
      refine lv_istore_n (lv' := [(2, .int (nI 1)), (0, .int x), (1, .int y)]) hx hb dX5_isScale_13 rfl hl (by decide) rfl (fun ls hl => ?_)
      refine lv_iload_n hx hb dX5_isScale_14 rfl (lv_at hl 0 rfl) ?_
      refine lv_if_ne (tgt := 38) hx hb dX5_isScale_15 (by decide) (fun _ => ?_) (fun h9 => absurd h9 (by decide))
      refine lv_iconst (v := nI 1) hx hb dX5_isScale_38 (by decide) ?_
      refine lv_goto (tgt := 43) hx hb dX5_isScale_39 (by decide) ?_
      exact hret _ _ 43 _ _ hS dX5_isScale_43 (by first | exact bI_1 (Or.inl ⟨c1, c5⟩) | exact bI_1 (Or.inr ⟨c25, c35⟩) | exact bI_0 (fun h => h.elim (fun h => by first | exact c1 h.1 | exact c5 h.2) (fun h => by first | exact c25 h.1 | exact c35 h.2)))

set_option maxHeartbeats 4000000 in
set_option maxRecDepth 100000 in
theorem k_isKeyAndHead (l : Launch) (D : va_G) (cI : ClassId) (W0 : va_W) (x y : Int32) : Cp l yX5_isKeyAndHead cX5_isKeyAndHead 2 (some .boolean) 1 D (tI cI) [.int x, .int y] W0 (bI ((nI 0 ≤ x ∧ x ≤ nI 11) ∧ (nI 0 ≤ y ∧ y ≤ nI 12))) := by
  refine Cp.of (own := RX5) (lv := [(0, .int x), (1, .int y)]) (by decide +kernel) rfl (Nat.le_of_ble_eq_true rfl) rfl (bI_nar _) ?_
  intro p e s m args below meth c Q cx hK hP hret ls hl
  obtain ⟨hx, hb, hml, hown, hg⟩ := id cx
  have hS : va_S (fun _ => False) s.heap s.heap [] := va_S.rf
  refine lv_iload_n hx hb dX5_isKeyAndHead_0 rfl (lv_at hl 0 rfl) ?_
  refine lv_iconst (v := nI 0) hx hb dX5_isKeyAndHead_1 (by decide) ?_
  refine lv_bipush (v := nI 11) hx hb dX5_isKeyAndHead_2 (by decide) ?_
  refine Cp.callS (As := [.int x, .int (nI 0), .int (nI 11)]) (rest := []) (cv_X5_60 hg ⟨Nat.le_of_ble_eq_true rfl, Nat.le_of_ble_eq_true rfl⟩) (k_isWithin l D cI [] (x) (nI 0) (nI 11)) cx hK hP [] rfl hS rfl hl.1 rfl (Nat.le_of_ble_eq_true rfl) dX5_isKeyAndHead_4 ⟨Nat.zero_le _, Nat.zero_le _⟩ (fun H locs hP hS => ?_)
  refine lv_if_eq (tgt := 24) hx hb dX5_isKeyAndHead_7 (by decide) (fun c7 => ?_) (fun c7 => ?_)
  · have c7 := bI_z.mp c7
    refine lv_iconst (v := nI 0) hx hb dX5_isKeyAndHead_24 (by decide) ?_
    exact hret _ _ 25 _ _ hS dX5_isKeyAndHead_25 (by first | exact bI_1 ⟨c7, c17⟩ | exact bI_0 (fun h => by first | exact c7 h.1 | exact c17 h.2))
  · have c7 := bI_nz.mp c7
    refine lv_iload_n hx hb dX5_isKeyAndHead_10 rfl (lv_at hl 1 rfl) ?_
    refine lv_iconst (v := nI 0) hx hb dX5_isKeyAndHead_11 (by decide) ?_
    refine lv_bipush (v := nI 12) hx hb dX5_isKeyAndHead_12 (by decide) ?_
    refine Cp.callS (As := [.int y, .int (nI 0), .int (nI 12)]) (rest := []) (cv_X5_60 hg ⟨Nat.le_of_ble_eq_true rfl, Nat.le_of_ble_eq_true rfl⟩) (k_isWithin l D cI [] (y) (nI 0) (nI 12)) cx hK hP [] rfl hS rfl hl.1 rfl (Nat.le_of_ble_eq_true rfl) dX5_isKeyAndHead_14 ⟨Nat.zero_le _, Nat.zero_le _⟩ (fun H locs hP hS => ?_)
    refine lv_if_eq (tgt := 24) hx hb dX5_isKeyAndHead_17 (by decide) (fun c17 => ?_) (fun c17 => ?_)
    · have c17 := bI_z.mp c17
      refine lv_iconst (v := nI 0) hx hb dX5_isKeyAndHead_24 (by decide) ?_
      exact hret _ _ 25 _ _ hS dX5_isKeyAndHead_25 (by first | exact bI_1 ⟨c7, c17⟩ | exact bI_0 (fun h => by first | exact c7 h.1 | exact c17 h.2))
    · have c17 := bI_nz.mp c17
      refine lv_iconst (v := nI 1) hx hb dX5_isKeyAndHead_20 (by decide) ?_
      refine lv_goto (tgt := 25) hx hb dX5_isKeyAndHead_21 (by decide) ?_
      exact hret _ _ 25 _ _ hS dX5_isKeyAndHead_25 (by first | exact bI_1 ⟨c7, c17⟩ | exact bI_0 (fun h => by first | exact c7 h.1 | exact c17 h.2))

set_option maxHeartbeats 4000000 in
set_option maxRecDepth 100000 in
theorem k_placeInTheme (l : Launch) (D : va_G) (cI : ClassId) (a0 n0 t0 s0 r0 g0 p0 q0 : Nat) (t1 t2 tn : Nat) (TP TL : Nat → Int32) (fo i : Nat) (hf : fo ≤ 3) (hi : i < tn) (ht : tn ≤ 12) : Cp l yX5_placeInTheme cX5_placeInTheme 4 (some .int) 0 D (tI cI) [.ref a0, .int (nI fo), .int (nI i)] [(a0, .inr (5, [.ref n0, .ref t0, .ref s0, .ref r0, .ref g0, .ref p0, .ref q0])), (t0, .inr (1, [.ref t1, .ref t2, .int (nI tn)]))] (nI (ff_src fo tn i)) := by
  refine Cp.of (own := RX5) (lv := [(0, .ref a0), (1, .int (nI fo)), (2, .int (nI i))]) (by decide +kernel) rfl (Nat.le_of_ble_eq_true rfl) rfl (vp_nar_int _) ?_
  intro p e s m args below meth c Q cx hK hP hret ls hl
  obtain ⟨hx, hb, hml, hown, hg⟩ := id cx
  have hS : va_S (fun _ => False) s.heap s.heap [] := va_S.rf
  refine lv_iload_n hx hb dX5_placeInTheme_0 rfl (lv_at hl 1 rfl) ?_
  refine lv_iconst (v := nI 2) hx hb dX5_placeInTheme_1 (by decide) ?_
  refine lv_icmp_eq (tgt := 10) hx hb dX5_placeInTheme_2 (by decide) (fun c2 => ?_) (fun c2 => ?_)
  · have c2 := (nI_eq (by omega) (by omega)).mp c2
    refine lv_iconst (v := nI 1) hx hb dX5_placeInTheme_10 (by decide) ?_
    refine lv_goto (tgt := 15) hx hb dX5_placeInTheme_11 (by decide) ?_
    refine lv_istore_n (lv' := [(3, .int (nI 1)), (0, .ref a0), (1, .int (nI fo)), (2, .int (nI i))]) hx hb dX5_placeInTheme_15 rfl hl (by decide) rfl (fun ls hl => ?_)
    refine lv_iload_n hx hb dX5_placeInTheme_16 rfl (lv_at hl 0 rfl) ?_
    refine lv_if_eq (tgt := 34) hx hb dX5_placeInTheme_17 (by decide) (fun h9 => absurd h9 (by decide)) (fun _ => ?_)
    refine lv_aload_n hx hb dX5_placeInTheme_20 rfl (lv_at hl 1 rfl) ?_
    refine gf_X5_16 hx hb hg hown hK hP 0 rfl rfl dX5_placeInTheme_21 ?_
    refine gf_X5_50 hx hb hg hown hK hP 1 rfl rfl dX5_placeInTheme_24 ?_
    refine lv_iconst (v := nI 1) hx hb dX5_placeInTheme_27 (by decide) ?_
    refine lv_isub hx hb dX5_placeInTheme_28 ?_
    refine lv_asi (pk_sub (by omega)) ?_
    refine lv_iload_n hx hb dX5_placeInTheme_29 rfl (lv_at hl 3 rfl) ?_
    refine lv_isub hx hb dX5_placeInTheme_30 ?_
    refine lv_asi (pk_sub (by omega)) ?_
    refine lv_goto (tgt := 35) hx hb dX5_placeInTheme_31 (by decide) ?_
    exact hret _ _ 35 _ _ hS dX5_placeInTheme_35 (by unfold ff_src; split <;> congr 1 <;> omega)
  · have c2 := mt (nI_eq (by omega) (by omega)).mpr c2
    refine lv_iload_n hx hb dX5_placeInTheme_5 rfl (lv_at hl 1 rfl) ?_
    refine lv_iconst (v := nI 3) hx hb dX5_placeInTheme_6 (by decide) ?_
    refine lv_icmp_ne (tgt := 14) hx hb dX5_placeInTheme_7 (by decide) (fun c7 => ?_) (fun c7 => ?_)
    · have c7 := mt (nI_eq (by omega) (by omega)).mpr c7
      refine lv_iconst (v := nI 0) hx hb dX5_placeInTheme_14 (by decide) ?_
      refine lv_istore_n (lv' := [(3, .int (nI 0)), (0, .ref a0), (1, .int (nI fo)), (2, .int (nI i))]) hx hb dX5_placeInTheme_15 rfl hl (by decide) rfl (fun ls hl => ?_)
      refine lv_iload_n hx hb dX5_placeInTheme_16 rfl (lv_at hl 0 rfl) ?_
      refine lv_if_eq (tgt := 34) hx hb dX5_placeInTheme_17 (by decide) (fun _ => ?_) (fun h9 => absurd (by decide) h9)
      refine lv_iload_n hx hb dX5_placeInTheme_34 rfl (lv_at hl 3 rfl) ?_
      exact hret _ _ 35 _ _ hS dX5_placeInTheme_35 (by unfold ff_src; split <;> congr 1 <;> omega)
    · have c7 := (nI_eq (by omega) (by omega)).mp c7
      refine lv_iconst (v := nI 1) hx hb dX5_placeInTheme_10 (by decide) ?_
      refine lv_goto (tgt := 15) hx hb dX5_placeInTheme_11 (by decide) ?_
      refine lv_istore_n (lv' := [(3, .int (nI 1)), (0, .ref a0), (1, .int (nI fo)), (2, .int (nI i))]) hx hb dX5_placeInTheme_15 rfl hl (by decide) rfl (fun ls hl => ?_)
      refine lv_iload_n hx hb dX5_placeInTheme_16 rfl (lv_at hl 0 rfl) ?_
      refine lv_if_eq (tgt := 34) hx hb dX5_placeInTheme_17 (by decide) (fun h9 => absurd h9 (by decide)) (fun _ => ?_)
      refine lv_aload_n hx hb dX5_placeInTheme_20 rfl (lv_at hl 1 rfl) ?_
      refine gf_X5_16 hx hb hg hown hK hP 0 rfl rfl dX5_placeInTheme_21 ?_
      refine gf_X5_50 hx hb hg hown hK hP 1 rfl rfl dX5_placeInTheme_24 ?_
      refine lv_iconst (v := nI 1) hx hb dX5_placeInTheme_27 (by decide) ?_
      refine lv_isub hx hb dX5_placeInTheme_28 ?_
      refine lv_asi (pk_sub (by omega)) ?_
      refine lv_iload_n hx hb dX5_placeInTheme_29 rfl (lv_at hl 3 rfl) ?_
      refine lv_isub hx hb dX5_placeInTheme_30 ?_
      refine lv_asi (pk_sub (by omega)) ?_
      refine lv_goto (tgt := 35) hx hb dX5_placeInTheme_31 (by decide) ?_
      exact hret _ _ 35 _ _ hS dX5_placeInTheme_35 (by unfold ff_src; split <;> congr 1 <;> omega)

set_option maxHeartbeats 4000000 in
set_option maxRecDepth 100000 in
theorem k_formPitch (l : Launch) (D : va_G) (cI : ClassId) (a0 n0 t0 s0 r0 g0 p0 q0 : Nat) (t1 t2 tn : Nat) (TP TL : Nat → Int32) (fo i : Nat) (hf : fo ≤ 3) (hi : i < tn) (ht : tn ≤ 12) : Cp l yX5_formPitch cX5_formPitch 5 (some .int) 1 D (tI cI) [.ref a0, .int (nI fo), .int (nI i)] [(a0, .inr (5, [.ref n0, .ref t0, .ref s0, .ref r0, .ref g0, .ref p0, .ref q0])), (t0, .inr (1, [.ref t1, .ref t2, .int (nI tn)])), (t1, oI cI 60 TP), (t2, oI cI 60 TL)] (ff_fp TP fo tn i) := by
  refine Cp.of (own := RX5) (lv := [(0, .ref a0), (1, .int (nI fo)), (2, .int (nI i))]) (by decide +kernel) rfl (Nat.le_of_ble_eq_true rfl) rfl (vp_nar_int _) ?_
  intro p e s m args below meth c Q cx hK hP hret ls hl
  obtain ⟨hx, hb, hml, hown, hg⟩ := id cx
  have hS : va_S (fun _ => False) s.heap s.heap [] := va_S.rf
  have hs1 := ff_src_lt (fo := fo) (tn := tn) (i := i) (by omega)
  have hs2 := ff_src_lt (fo := fo) (tn := tn) (i := 0) (by omega)
  refine lv_aload_n hx hb dX5_formPitch_0 rfl (lv_at hl 0 rfl) ?_
  refine gf_X5_16 hx hb hg hown hK hP 0 rfl rfl dX5_formPitch_1 ?_
  refine gf_X5_137 hx hb hg hown hK hP 1 rfl rfl dX5_formPitch_4 ?_
  refine lv_aload_n hx hb dX5_formPitch_7 rfl (lv_at hl 0 rfl) ?_
  refine lv_iload_n hx hb dX5_formPitch_8 rfl (lv_at hl 1 rfl) ?_
  refine lv_iload_n hx hb dX5_formPitch_9 rfl (lv_at hl 2 rfl) ?_
  refine Cp.callV (As := [.int (nI fo), .int (nI i)]) (rest := [.ref t1]) (cv_X5_190 hg ⟨Nat.le_of_ble_eq_true rfl, Nat.le_of_ble_eq_true rfl⟩) (k_placeInTheme l D cI a0 n0 t0 s0 r0 g0 p0 q0 t1 t2 tn TP TL fo i hf (by omega) ht) cx hK hP [0, 1] rfl (rq := 0) rfl rfl rfl hS rfl hl.1 rfl (Nat.le_of_ble_eq_true rfl) dX5_formPitch_10 ⟨Nat.zero_le _, Nat.zero_le _⟩ (fun H locs hP hS => ?_)
  refine ald hx hb hK hP 2 rfl rfl (by omega) dX5_formPitch_13 ?_
  refine lv_istore_n (lv' := [(3, .int ((TP (ff_src fo tn i)))), (0, .ref a0), (1, .int (nI fo)), (2, .int (nI i))]) hx hb dX5_formPitch_14 rfl hl (by decide) rfl (fun ls hl => ?_)
  refine lv_iload_n hx hb dX5_formPitch_15 rfl (lv_at hl 2 rfl) ?_
  refine lv_iconst (v := nI 1) hx hb dX5_formPitch_16 (by decide) ?_
  refine lv_icmp_eq (tgt := 25) hx hb dX5_formPitch_17 (by decide) (fun c17 => ?_) (fun c17 => ?_)
  · have c17 := (nI_eq (by omega) (by omega)).mp c17
    refine lv_iconst (v := nI 1) hx hb dX5_formPitch_25 (by decide) ?_
    refine lv_goto (tgt := 30) hx hb dX5_formPitch_26 (by decide) ?_
    refine lv_istore (lv' := [(4, .int (nI 1)), (3, .int ((TP (ff_src fo tn i)))), (0, .ref a0), (1, .int (nI fo)), (2, .int (nI i))]) hx hb dX5_formPitch_30 hl (by decide) rfl (fun ls hl => ?_)
    refine lv_iload hx hb dX5_formPitch_32 (lv_at hl 0 rfl) ?_
    refine lv_if_eq (tgt := 58) hx hb dX5_formPitch_34 (by decide) (fun h9 => absurd h9 (by decide)) (fun _ => ?_)
    refine lv_iconst (v := nI 2) hx hb dX5_formPitch_37 (by decide) ?_
    refine lv_aload_n hx hb dX5_formPitch_38 rfl (lv_at hl 2 rfl) ?_
    refine gf_X5_16 hx hb hg hown hK hP 0 rfl rfl dX5_formPitch_39 ?_
    refine gf_X5_137 hx hb hg hown hK hP 1 rfl rfl dX5_formPitch_42 ?_
    refine lv_aload_n hx hb dX5_formPitch_45 rfl (lv_at hl 2 rfl) ?_
    refine lv_iload_n hx hb dX5_formPitch_46 rfl (lv_at hl 3 rfl) ?_
    refine lv_iconst (v := nI 0) hx hb dX5_formPitch_47 (by decide) ?_
    refine Cp.callV (As := [.int (nI fo), .int (nI 0)]) (rest := [.ref t1, .int (nI 2)]) (cv_X5_190 hg ⟨Nat.le_of_ble_eq_true rfl, Nat.le_of_ble_eq_true rfl⟩) (k_placeInTheme l D cI a0 n0 t0 s0 r0 g0 p0 q0 t1 t2 tn TP TL fo 0 hf (by omega) ht) cx hK hP [0, 1] rfl (rq := 0) rfl rfl rfl hS rfl hl.1 rfl (Nat.le_of_ble_eq_true rfl) dX5_formPitch_48 ⟨Nat.zero_le _, Nat.zero_le _⟩ (fun H locs hP hS => ?_)
    refine ald hx hb hK hP 2 rfl rfl (by omega) dX5_formPitch_51 ?_
    refine lv_imul hx hb dX5_formPitch_52 ?_
    refine lv_iload_n hx hb dX5_formPitch_53 rfl (lv_at hl 1 rfl) ?_
    refine lv_isub hx hb dX5_formPitch_54 ?_
    refine lv_goto (tgt := 59) hx hb dX5_formPitch_55 (by decide) ?_
    exact hret _ _ 59 _ _ hS dX5_formPitch_59 (by unfold ff_fp; split <;> first | rfl | (exfalso; omega))
  · have c17 := mt (nI_eq (by omega) (by omega)).mpr c17
    refine lv_iload_n hx hb dX5_formPitch_20 rfl (lv_at hl 2 rfl) ?_
    refine lv_iconst (v := nI 3) hx hb dX5_formPitch_21 (by decide) ?_
    refine lv_icmp_ne (tgt := 29) hx hb dX5_formPitch_22 (by decide) (fun c22 => ?_) (fun c22 => ?_)
    · have c22 := mt (nI_eq (by omega) (by omega)).mpr c22
      refine lv_iconst (v := nI 0) hx hb dX5_formPitch_29 (by decide) ?_
      refine lv_istore (lv' := [(4, .int (nI 0)), (3, .int ((TP (ff_src fo tn i)))), (0, .ref a0), (1, .int (nI fo)), (2, .int (nI i))]) hx hb dX5_formPitch_30 hl (by decide) rfl (fun ls hl => ?_)
      refine lv_iload hx hb dX5_formPitch_32 (lv_at hl 0 rfl) ?_
      refine lv_if_eq (tgt := 58) hx hb dX5_formPitch_34 (by decide) (fun _ => ?_) (fun h9 => absurd (by decide) h9)
      refine lv_iload_n hx hb dX5_formPitch_58 rfl (lv_at hl 1 rfl) ?_
      exact hret _ _ 59 _ _ hS dX5_formPitch_59 (by unfold ff_fp; split <;> first | rfl | (exfalso; omega))
    · have c22 := (nI_eq (by omega) (by omega)).mp c22
      refine lv_iconst (v := nI 1) hx hb dX5_formPitch_25 (by decide) ?_
      refine lv_goto (tgt := 30) hx hb dX5_formPitch_26 (by decide) ?_
      refine lv_istore (lv' := [(4, .int (nI 1)), (3, .int ((TP (ff_src fo tn i)))), (0, .ref a0), (1, .int (nI fo)), (2, .int (nI i))]) hx hb dX5_formPitch_30 hl (by decide) rfl (fun ls hl => ?_)
      refine lv_iload hx hb dX5_formPitch_32 (lv_at hl 0 rfl) ?_
      refine lv_if_eq (tgt := 58) hx hb dX5_formPitch_34 (by decide) (fun h9 => absurd h9 (by decide)) (fun _ => ?_)
      refine lv_iconst (v := nI 2) hx hb dX5_formPitch_37 (by decide) ?_
      refine lv_aload_n hx hb dX5_formPitch_38 rfl (lv_at hl 2 rfl) ?_
      refine gf_X5_16 hx hb hg hown hK hP 0 rfl rfl dX5_formPitch_39 ?_
      refine gf_X5_137 hx hb hg hown hK hP 1 rfl rfl dX5_formPitch_42 ?_
      refine lv_aload_n hx hb dX5_formPitch_45 rfl (lv_at hl 2 rfl) ?_
      refine lv_iload_n hx hb dX5_formPitch_46 rfl (lv_at hl 3 rfl) ?_
      refine lv_iconst (v := nI 0) hx hb dX5_formPitch_47 (by decide) ?_
      refine Cp.callV (As := [.int (nI fo), .int (nI 0)]) (rest := [.ref t1, .int (nI 2)]) (cv_X5_190 hg ⟨Nat.le_of_ble_eq_true rfl, Nat.le_of_ble_eq_true rfl⟩) (k_placeInTheme l D cI a0 n0 t0 s0 r0 g0 p0 q0 t1 t2 tn TP TL fo 0 hf (by omega) ht) cx hK hP [0, 1] rfl (rq := 0) rfl rfl rfl hS rfl hl.1 rfl (Nat.le_of_ble_eq_true rfl) dX5_formPitch_48 ⟨Nat.zero_le _, Nat.zero_le _⟩ (fun H locs hP hS => ?_)
      refine ald hx hb hK hP 2 rfl rfl (by omega) dX5_formPitch_51 ?_
      refine lv_imul hx hb dX5_formPitch_52 ?_
      refine lv_iload_n hx hb dX5_formPitch_53 rfl (lv_at hl 1 rfl) ?_
      refine lv_isub hx hb dX5_formPitch_54 ?_
      refine lv_goto (tgt := 59) hx hb dX5_formPitch_55 (by decide) ?_
      exact hret _ _ 59 _ _ hS dX5_formPitch_59 (by unfold ff_fp; split <;> first | rfl | (exfalso; omega))

set_option maxHeartbeats 4000000 in
set_option maxRecDepth 100000 in
theorem k_formLength (l : Launch) (D : va_G) (cI : ClassId) (a0 n0 t0 s0 r0 g0 p0 q0 : Nat) (t1 t2 tn : Nat) (TP TL : Nat → Int32) (fo i : Nat) (hf : fo ≤ 3) (hi : i < tn) (ht : tn ≤ 12) : Cp l yX5_formLength cX5_formLength 3 (some .int) 1 D (tI cI) [.ref a0, .int (nI fo), .int (nI i)] [(a0, .inr (5, [.ref n0, .ref t0, .ref s0, .ref r0, .ref g0, .ref p0, .ref q0])), (t0, .inr (1, [.ref t1, .ref t2, .int (nI tn)])), (t1, oI cI 60 TP), (t2, oI cI 60 TL)] (ff_fl TL fo tn i) := by
  refine Cp.of (own := RX5) (lv := [(0, .ref a0), (1, .int (nI fo)), (2, .int (nI i))]) (by decide +kernel) rfl (Nat.le_of_ble_eq_true rfl) rfl (vp_nar_int _) ?_
  intro p e s m args below meth c Q cx hK hP hret ls hl
  obtain ⟨hx, hb, hml, hown, hg⟩ := id cx
  have hS : va_S (fun _ => False) s.heap s.heap [] := va_S.rf
  have hs1 := ff_src_lt (fo := fo) (tn := tn) (i := i) (by omega)
  refine lv_aload_n hx hb dX5_formLength_0 rfl (lv_at hl 0 rfl) ?_
  refine gf_X5_16 hx hb hg hown hK hP 0 rfl rfl dX5_formLength_1 ?_
  refine gf_X5_141 hx hb hg hown hK hP 1 rfl rfl dX5_formLength_4 ?_
  refine lv_aload_n hx hb dX5_formLength_7 rfl (lv_at hl 0 rfl) ?_
  refine lv_iload_n hx hb dX5_formLength_8 rfl (lv_at hl 1 rfl) ?_
  refine lv_iload_n hx hb dX5_formLength_9 rfl (lv_at hl 2 rfl) ?_
  refine Cp.callV (As := [.int (nI fo), .int (nI i)]) (rest := [.ref t2]) (cv_X5_190 hg ⟨Nat.le_of_ble_eq_true rfl, Nat.le_of_ble_eq_true rfl⟩) (k_placeInTheme l D cI a0 n0 t0 s0 r0 g0 p0 q0 t1 t2 tn TP TL fo i hf (by omega) ht) cx hK hP [0, 1] rfl (rq := 0) rfl rfl rfl hS rfl hl.1 rfl (Nat.le_of_ble_eq_true rfl) dX5_formLength_10 ⟨Nat.zero_le _, Nat.zero_le _⟩ (fun H locs hP hS => ?_)
  refine ald hx hb hK hP 3 rfl rfl (by omega) dX5_formLength_13 ?_
  exact hret _ _ 14 _ _ hS dX5_formLength_14 (rfl)

set_option maxHeartbeats 4000000 in
set_option maxRecDepth 100000 in
theorem k_floorMod (l : Launch) (D : va_G) (cI : ClassId) (W0 : va_W) (x : Int32) (z : Int) (hx9 : x.toInt = z) (h1 : -11 ≤ z) (h2 : z ≤ 127) : Cp l yJ9_floorMod_7cf53 cJ9_floorMod_7cf53 3 (some .int) 0 D (tI cI) [.int x, .int (nI 12)] W0 (nI (z % 12).toNat) := by
  refine Cp.of (own := RJ9) (lv := [(0, .int x), (1, .int (nI 12))]) (by decide +kernel) rfl (Nat.le_of_ble_eq_true rfl) rfl (vp_nar_int _) ?_
  intro p e s m args below meth c Q cx hK hP hret ls hl
  obtain ⟨hx, hb, hml, hown, hg⟩ := id cx
  have hS : va_S (fun _ => False) s.heap s.heap [] := va_S.rf
  refine lv_iload_n hx hb dJ9_floorMod_7cf53_0 rfl (lv_at hl 0 rfl) ?_
  refine lv_iload_n hx hb dJ9_floorMod_7cf53_1 rfl (lv_at hl 1 rfl) ?_
  refine lv_irem hx hb dJ9_floorMod_7cf53_2 (by decide) ?_
  refine lv_asi (y := (if z < 0 then x else nI (z % 12).toNat)) (ff_fm0 hx9 h1 h2) ?_
  refine lv_istore_n (lv' := [(2, .int ((if z < 0 then x else nI (z % 12).toNat))), (0, .int x), (1, .int (nI 12))]) hx hb dJ9_floorMod_7cf53_3 rfl hl (by decide) rfl (fun ls hl => ?_)
  refine lv_iload_n hx hb dJ9_floorMod_7cf53_4 rfl (lv_at hl 1 rfl) ?_
  refine lv_iload_n hx hb dJ9_floorMod_7cf53_5 rfl (lv_at hl 2 rfl) ?_
  refine lv_ixor hx hb dJ9_floorMod_7cf53_6 ?_
  refine lv_if_ge (tgt := 18) hx hb dJ9_floorMod_7cf53_7 (by decide) (fun c7 => ?_) (fun c7 => ?_)
  · skip
    refine lv_iload_n hx hb dJ9_floorMod_7cf53_18 rfl (lv_at hl 0 rfl) ?_
    exact hret _ _ 19 _ _ hS dJ9_floorMod_7cf53_19 (by first | exact ff_fmA hx9 h1 c7 | exact ff_fmB hx9 h1 c11)
  · skip
    refine lv_iload_n hx hb dJ9_floorMod_7cf53_10 rfl (lv_at hl 0 rfl) ?_
    refine lv_if_eq (tgt := 18) hx hb dJ9_floorMod_7cf53_11 (by decide) (fun c11 => ?_) (fun c11 => ?_)
    · skip
      refine lv_iload_n hx hb dJ9_floorMod_7cf53_18 rfl (lv_at hl 0 rfl) ?_
      exact hret _ _ 19 _ _ hS dJ9_floorMod_7cf53_19 (by first | exact ff_fmA hx9 h1 c7 | exact ff_fmB hx9 h1 c11)
    · skip
      refine lv_iload_n hx hb dJ9_floorMod_7cf53_14 rfl (lv_at hl 0 rfl) ?_
      refine lv_iload_n hx hb dJ9_floorMod_7cf53_15 rfl (lv_at hl 2 rfl) ?_
      refine lv_iadd hx hb dJ9_floorMod_7cf53_16 ?_
      exact hret _ _ 17 _ _ hS dJ9_floorMod_7cf53_17 (ff_fmC hx9 h1 h2 c7)

set_option maxHeartbeats 4000000 in
set_option maxRecDepth 100000 in
theorem k_answerPitch (l : Launch) (D : va_G) (cI : ClassId) (a0 n0 t0 s0 r0 g0 p0 q0 : Nat) (t1 t2 tn : Nat) (TP TL : Nat → Int32) (ky hd i : Nat) (hk9 : ky ≤ 11) (hh : hd ≤ 12) (hi : i < tn) (ht : tn ≤ 12) (hp1 : 0 ≤ (TP i).toInt) (hp2 : (TP i).toInt ≤ 127) : Cp l yX5_answerPitch cX5_answerPitch 6 (some .int) 1 D (tI cI) [.ref a0, .int (nI ky), .int (nI hd), .int (nI i)] [(a0, .inr (5, [.ref n0, .ref t0, .ref s0, .ref r0, .ref g0, .ref p0, .ref q0])), (t0, .inr (1, [.ref t1, .ref t2, .int (nI tn)])), (t1, oI cI 60 TP), (t2, oI cI 60 TL)] (ff_ap TP ky hd i) := by
  refine Cp.of (own := RX5) (lv := [(0, .ref a0), (1, .int (nI ky)), (2, .int (nI hd)), (3, .int (nI i))]) (by decide +kernel) rfl (Nat.le_of_ble_eq_true rfl) rfl (vp_nar_int _) ?_
  intro p e s m args below meth c Q cx hK hP hret ls hl
  obtain ⟨hx, hb, hml, hown, hg⟩ := id cx
  have hS : va_S (fun _ => False) s.heap s.heap [] := va_S.rf
  refine lv_aload_n hx hb dX5_answerPitch_0 rfl (lv_at hl 0 rfl) ?_
  refine gf_X5_16 hx hb hg hown hK hP 0 rfl rfl dX5_answerPitch_1 ?_
  refine gf_X5_137 hx hb hg hown hK hP 1 rfl rfl dX5_answerPitch_4 ?_
  refine lv_iload_n hx hb dX5_answerPitch_7 rfl (lv_at hl 3 rfl) ?_
  refine ald hx hb hK hP 2 rfl rfl (by omega) dX5_answerPitch_8 ?_
  refine lv_istore (lv' := [(4, .int ((TP i))), (0, .ref a0), (1, .int (nI ky)), (2, .int (nI hd)), (3, .int (nI i))]) hx hb dX5_answerPitch_9 hl (by decide) rfl (fun ls hl => ?_)
  refine lv_iload_n hx hb dX5_answerPitch_11 rfl (lv_at hl 4 rfl) ?_
  refine lv_iload_n hx hb dX5_answerPitch_12 rfl (lv_at hl 3 rfl) ?_
  refine lv_icmp_ge (tgt := 34) hx hb dX5_answerPitch_13 (by decide) (fun c13 => ?_) (fun c13 => ?_)
  · have c13 := (nI_leI (by omega) (by omega)).mp c13
    refine lv_iconst (v := nI 0) hx hb dX5_answerPitch_34 (by decide) ?_
    refine lv_istore (lv' := [(5, .int (nI 0)), (4, .int ((TP i))), (0, .ref a0), (1, .int (nI ky)), (2, .int (nI hd)), (3, .int (nI i))]) hx hb dX5_answerPitch_35 hl (by decide) rfl (fun ls hl => ?_)
    refine lv_iload hx hb dX5_answerPitch_37 (lv_at hl 1 rfl) ?_
    refine lv_iload hx hb dX5_answerPitch_39 (lv_at hl 0 rfl) ?_
    refine lv_if_eq (tgt := 48) hx hb dX5_answerPitch_41 (by decide) (fun _ => ?_) (fun h9 => absurd (by decide) h9)
    refine lv_bipush (v := nI 7) hx hb dX5_answerPitch_48 (by decide) ?_
    refine lv_iadd hx hb dX5_answerPitch_50 ?_
    exact hret _ _ 51 _ _ hS dX5_answerPitch_51 (by unfold ff_ap; split <;> first | rfl | (exfalso; omega))
  · have c13 := mt (nI_leI (by omega) (by omega)).mpr c13
    refine lv_iload hx hb dX5_answerPitch_16 (lv_at hl 0 rfl) ?_
    refine lv_iload_n hx hb dX5_answerPitch_18 rfl (lv_at hl 2 rfl) ?_
    refine lv_isub hx hb dX5_answerPitch_19 ?_
    refine lv_bipush (v := nI 12) hx hb dX5_answerPitch_20 (by decide) ?_
    refine Cp.callS (As := [.int (((TP i) - nI ky)), .int (nI 12)]) (rest := []) (cv_X5_193 hg ⟨Nat.le_of_ble_eq_true rfl, Nat.le_of_ble_eq_true rfl⟩) (k_floorMod l D cI [] (TP i - nI ky) ((TP i).toInt - (ky : Int)) (ff_sub9 hp1 hp2 hk9) (by omega) (by omega)) cx hK hP [] rfl hS rfl hl.1 rfl (Nat.le_of_ble_eq_true rfl) dX5_answerPitch_22 ⟨Nat.zero_le _, Nat.zero_le _⟩ (fun H locs hP hS => ?_)
    refine lv_bipush (v := nI 7) hx hb dX5_answerPitch_25 (by decide) ?_
    refine lv_icmp_ne (tgt := 34) hx hb dX5_answerPitch_27 (by decide) (fun c27 => ?_) (fun c27 => ?_)
    · have c27 := mt (nI_eq (by omega) (by omega)).mpr c27
      refine lv_iconst (v := nI 0) hx hb dX5_answerPitch_34 (by decide) ?_
      refine lv_istore (lv' := [(5, .int (nI 0)), (4, .int ((TP i))), (0, .ref a0), (1, .int (nI ky)), (2, .int (nI hd)), (3, .int (nI i))]) hx hb dX5_answerPitch_35 hl (by decide) rfl (fun ls hl => ?_)
      refine lv_iload hx hb dX5_answerPitch_37 (lv_at hl 1 rfl) ?_
      refine lv_iload hx hb dX5_answerPitch_39 (lv_at hl 0 rfl) ?_
      refine lv_if_eq (tgt := 48) hx hb dX5_answerPitch_41 (by decide) (fun _ => ?_) (fun h9 => absurd (by decide) h9)
      refine lv_bipush (v := nI 7) hx hb dX5_answerPitch_48 (by decide) ?_
      refine lv_iadd hx hb dX5_answerPitch_50 ?_
      exact hret _ _ 51 _ _ hS dX5_answerPitch_51 (by unfold ff_ap; split <;> first | rfl | (exfalso; omega))
    · have c27 := (nI_eq (by omega) (by omega)).mp c27
      refine lv_iconst (v := nI 1) hx hb dX5_answerPitch_30 (by decide) ?_
      refine lv_goto (tgt := 35) hx hb dX5_answerPitch_31 (by decide) ?_
      refine lv_istore (lv' := [(5, .int (nI 1)), (4, .int ((TP i))), (0, .ref a0), (1, .int (nI ky)), (2, .int (nI hd)), (3, .int (nI i))]) hx hb dX5_answerPitch_35 hl (by decide) rfl (fun ls hl => ?_)
      refine lv_iload hx hb dX5_answerPitch_37 (lv_at hl 1 rfl) ?_
      refine lv_iload hx hb dX5_answerPitch_39 (lv_at hl 0 rfl) ?_
      refine lv_if_eq (tgt := 48) hx hb dX5_answerPitch_41 (by decide) (fun h9 => absurd h9 (by decide)) (fun _ => ?_)
      refine lv_iconst (v := nI 5) hx hb dX5_answerPitch_44 (by decide) ?_
      refine lv_goto (tgt := 50) hx hb dX5_answerPitch_45 (by decide) ?_
      refine lv_iadd hx hb dX5_answerPitch_50 ?_
      exact hret _ _ 51 _ _ hS dX5_answerPitch_51 (by unfold ff_ap; split <;> first | rfl | (exfalso; omega))

set_option maxHeartbeats 4000000 in
set_option maxRecDepth 100000 in
theorem k_isSoughtAt (l : Launch) (D : va_G) (cI : ClassId) (a0 n0 t0 s0 r0 g0 p0 q0 : Nat) (n1 n2 nn : Nat) (NP NL : Nat → Int32) (s1 s2 sn : Nat) (SP SL : Nat → Int32) (z : Nat) (up dn : Int32) (hz : z + sn ≤ nn) (hn : nn ≤ 60) (hs : sn ≤ 12) : Cp l yX5_isSoughtAt cX5_isSoughtAt 5 (some .boolean) 1 D (tI cI) [.ref a0, .int (nI z), .int up, .int dn] [(a0, .inr (5, [.ref n0, .ref t0, .ref s0, .ref r0, .ref g0, .ref p0, .ref q0])), (n0, .inr (1, [.ref n1, .ref n2, .int (nI nn)])), (n1, oI cI 60 NP), (n2, oI cI 60 NL), (s0, .inr (1, [.ref s1, .ref s2, .int (nI sn)])), (s1, oI cI 60 SP), (s2, oI cI 60 SL)] (bI (ff_at NP NL SP SL sn up dn z = true)) := by
  refine Cp.of (own := RX5) (lv := [(0, .ref a0), (1, .int (nI z)), (2, .int up), (3, .int dn)]) (by decide +kernel) rfl (Nat.le_of_ble_eq_true rfl) rfl (bI_nar _) ?_
  intro p e s m args below meth c Q cx hK hP hret ls hl
  obtain ⟨hx, hb, hml, hown, hg⟩ := id cx
  have hS : va_S (fun _ => False) s.heap s.heap [] := va_S.rf
  refine lv_iconst (v := nI 0) hx hb dX5_isSoughtAt_0 (by decide) ?_
  refine lv_istore (lv' := [(4, .int (nI 0)), (0, .ref a0), (1, .int (nI z)), (2, .int up), (3, .int dn)]) hx hb dX5_isSoughtAt_1 hl (by decide) rfl (fun ls hl => ?_)
  have lp_3 : ∀ (k : Nat) (i : Nat) (H : Heap) (locs : List Loc) (ls : Array Slot), (i ≤ sn) → (∀ t, t < i → (fun t => (decide (t = 0) || decide (NP (z + t) - NP (z + t - 1) = SP t - SP (t - 1))) && decide (NL (z + t) * dn = SL t * up)) t = true) → (sn - i < k) → va_P D vwCl [(a0, .inr (5, [.ref n0, .ref t0, .ref s0, .ref r0, .ref g0, .ref p0, .ref q0])), (n0, .inr (1, [.ref n1, .ref n2, .int (nI nn)])), (n1, oI cI 60 NP), (n2, oI cI 60 NL), (s0, .inr (1, [.ref s1, .ref s2, .int (nI sn)])), (s1, oI cI 60 SP), (s2, oI cI 60 SL)] H → va_S (fun _ => False) s.heap H locs → lv_has ls 5 [(0, .ref a0), (1, .int (nI z)), (2, .int up), (3, .int dn), (4, .int (nI i))] → W p l e (rr 1 0 0) s m args below meth c H locs 0 0 Q (F0 m 3 ls []) := by
    intro k
    induction k with
    | zero =>
      intro i H locs ls hi he hk
      exact absurd hk (Nat.not_lt_zero _)
    | succ k ih_3 =>
      intro i H locs ls hi he hk hP hS hl
      refine lv_iload hx hb dX5_isSoughtAt_3 (lv_at hl 4 rfl) ?_
      refine lv_aload_n hx hb dX5_isSoughtAt_5 rfl (lv_at hl 0 rfl) ?_
      refine gf_X5_19 hx hb hg hown hK hP 0 rfl rfl dX5_isSoughtAt_6 ?_
      refine gf_X5_50 hx hb hg hown hK hP 4 rfl rfl dX5_isSoughtAt_9 ?_
      refine lv_icmp_ge (tgt := 82) hx hb dX5_isSoughtAt_12 (by decide) (fun c12 => ?_) (fun c12 => ?_)
      · have c12 := (nI_leI (by omega) (by omega)).mp c12
        refine lv_iconst (v := nI 1) hx hb dX5_isSoughtAt_82 (by decide) ?_
        exact hret _ _ 83 _ _ hS dX5_isSoughtAt_83 (bI_1 ((ff_all_iff _ _).mpr (fun t ht => he t (by omega))))
      · have c12 := mt (nI_leI (by omega) (by omega)).mpr c12
        refine lv_iload hx hb dX5_isSoughtAt_15 (lv_at hl 4 rfl) ?_
        refine lv_if_le (tgt := 45) hx hb dX5_isSoughtAt_17 (by decide) (fun c17 => ?_) (fun c17 => ?_)
        · have c17 := (nz_le (by omega)).mp c17
          refine lv_aload_n hx hb dX5_isSoughtAt_45 rfl (lv_at hl 0 rfl) ?_
          refine gf_X5_10 hx hb hg hown hK hP 0 rfl rfl dX5_isSoughtAt_46 ?_
          refine gf_X5_141 hx hb hg hown hK hP 1 rfl rfl dX5_isSoughtAt_49 ?_
          refine lv_iload_n hx hb dX5_isSoughtAt_52 rfl (lv_at hl 1 rfl) ?_
          refine lv_iload hx hb dX5_isSoughtAt_53 (lv_at hl 4 rfl) ?_
          refine lv_iadd hx hb dX5_isSoughtAt_55 ?_
          refine lv_asi (nI_add _ _) ?_
          refine ald hx hb hK hP 3 rfl rfl (by omega) dX5_isSoughtAt_56 ?_
          refine lv_iload_n hx hb dX5_isSoughtAt_57 rfl (lv_at hl 3 rfl) ?_
          refine lv_imul hx hb dX5_isSoughtAt_58 ?_
          refine lv_aload_n hx hb dX5_isSoughtAt_59 rfl (lv_at hl 0 rfl) ?_
          refine gf_X5_19 hx hb hg hown hK hP 0 rfl rfl dX5_isSoughtAt_60 ?_
          refine gf_X5_141 hx hb hg hown hK hP 4 rfl rfl dX5_isSoughtAt_63 ?_
          refine lv_iload hx hb dX5_isSoughtAt_66 (lv_at hl 4 rfl) ?_
          refine ald hx hb hK hP 6 rfl rfl (by omega) dX5_isSoughtAt_68 ?_
          refine lv_iload_n hx hb dX5_isSoughtAt_69 rfl (lv_at hl 2 rfl) ?_
          refine lv_imul hx hb dX5_isSoughtAt_70 ?_
          refine lv_icmp_eq (tgt := 76) hx hb dX5_isSoughtAt_71 (by decide) (fun c71 => ?_) (fun c71 => ?_)
          · skip
            refine lv_iinc (v := nI (i + 1)) (lv' := [(4, .int (nI (i + 1))), (0, .ref a0), (1, .int (nI z)), (2, .int up), (3, .int dn)]) hx hb dX5_isSoughtAt_76 hl (k := 4) rfl (nI_1 _) (by decide) rfl (fun ls hl => ?_)
            refine lv_goto (tgt := 3) hx hb dX5_isSoughtAt_79 (by decide) ?_
            exact ih_3 (i + 1) _ _ _ (by omega) (fun t ht => by rcases Nat.lt_succ_iff_lt_or_eq.mp ht with h | h <;> first | exact he t h | (subst h; show ((decide _ || decide _) && decide _) = true; rw [Bool.and_eq_true, Bool.or_eq_true]; exact ⟨by first | exact Or.inl (decide_eq_true c17) | exact Or.inr (decide_eq_true c40), decide_eq_true c71⟩)) (by omega) hP hS (lv_sub hl [1, 2, 3, 4, 0] rfl)
          · skip
            refine lv_iconst (v := nI 0) hx hb dX5_isSoughtAt_74 (by decide) ?_
            exact hret _ _ 75 _ _ hS dX5_isSoughtAt_75 (bI_0 (fun h => by have h9 := (ff_all_iff _ _).mp h i (by omega); simp [c71] at h9))
        · have c17 := mt (nz_le (by omega)).mpr c17
          refine lv_aload_n hx hb dX5_isSoughtAt_20 rfl (lv_at hl 0 rfl) ?_
          refine gf_X5_10 hx hb hg hown hK hP 0 rfl rfl dX5_isSoughtAt_21 ?_
          refine lv_iload_n hx hb dX5_isSoughtAt_24 rfl (lv_at hl 1 rfl) ?_
          refine lv_iload hx hb dX5_isSoughtAt_25 (lv_at hl 4 rfl) ?_
          refine lv_iadd hx hb dX5_isSoughtAt_27 ?_
          refine lv_asi (nI_add _ _) ?_
          refine Cp.callV (As := [.int (nI (z + i))]) (rest := []) (cv_X5_204 hg ⟨Nat.le_of_ble_eq_true rfl, Nat.le_of_ble_eq_true rfl⟩) (k_X1_stepTo l D cI n0 n1 n2 nn NP NL (z + i) (by omega) (by omega)) cx hK hP [1, 2, 3] rfl (rq := 0) rfl rfl rfl hS rfl hl.1 rfl (Nat.le_of_ble_eq_true rfl) dX5_isSoughtAt_28 ⟨Nat.zero_le _, Nat.zero_le _⟩ (fun H locs hP hS => ?_)
          refine lv_aload_n hx hb dX5_isSoughtAt_31 rfl (lv_at hl 0 rfl) ?_
          refine gf_X5_19 hx hb hg hown hK hP 0 rfl rfl dX5_isSoughtAt_32 ?_
          refine lv_iload hx hb dX5_isSoughtAt_35 (lv_at hl 4 rfl) ?_
          refine Cp.callV (As := [.int (nI i)]) (rest := [.int ((NP (z + i) - NP (z + i - 1)))]) (cv_X5_204 hg ⟨Nat.le_of_ble_eq_true rfl, Nat.le_of_ble_eq_true rfl⟩) (k_X1_stepTo l D cI s0 s1 s2 sn SP SL i (by omega) (by omega)) cx hK hP [4, 5, 6] rfl (rq := 0) rfl rfl rfl hS rfl hl.1 rfl (Nat.le_of_ble_eq_true rfl) dX5_isSoughtAt_37 ⟨Nat.zero_le _, Nat.zero_le _⟩ (fun H locs hP hS => ?_)
          refine lv_icmp_eq (tgt := 45) hx hb dX5_isSoughtAt_40 (by decide) (fun c40 => ?_) (fun c40 => ?_)
          · skip
            refine lv_aload_n hx hb dX5_isSoughtAt_45 rfl (lv_at hl 0 rfl) ?_
            refine gf_X5_10 hx hb hg hown hK hP 0 rfl rfl dX5_isSoughtAt_46 ?_
            refine gf_X5_141 hx hb hg hown hK hP 1 rfl rfl dX5_isSoughtAt_49 ?_
            refine lv_iload_n hx hb dX5_isSoughtAt_52 rfl (lv_at hl 1 rfl) ?_
            refine lv_iload hx hb dX5_isSoughtAt_53 (lv_at hl 4 rfl) ?_
            refine lv_iadd hx hb dX5_isSoughtAt_55 ?_
            refine lv_asi (nI_add _ _) ?_
            refine ald hx hb hK hP 3 rfl rfl (by omega) dX5_isSoughtAt_56 ?_
            refine lv_iload_n hx hb dX5_isSoughtAt_57 rfl (lv_at hl 3 rfl) ?_
            refine lv_imul hx hb dX5_isSoughtAt_58 ?_
            refine lv_aload_n hx hb dX5_isSoughtAt_59 rfl (lv_at hl 0 rfl) ?_
            refine gf_X5_19 hx hb hg hown hK hP 0 rfl rfl dX5_isSoughtAt_60 ?_
            refine gf_X5_141 hx hb hg hown hK hP 4 rfl rfl dX5_isSoughtAt_63 ?_
            refine lv_iload hx hb dX5_isSoughtAt_66 (lv_at hl 4 rfl) ?_
            refine ald hx hb hK hP 6 rfl rfl (by omega) dX5_isSoughtAt_68 ?_
            refine lv_iload_n hx hb dX5_isSoughtAt_69 rfl (lv_at hl 2 rfl) ?_
            refine lv_imul hx hb dX5_isSoughtAt_70 ?_
            refine lv_icmp_eq (tgt := 76) hx hb dX5_isSoughtAt_71 (by decide) (fun c71 => ?_) (fun c71 => ?_)
            · skip
              refine lv_iinc (v := nI (i + 1)) (lv' := [(4, .int (nI (i + 1))), (0, .ref a0), (1, .int (nI z)), (2, .int up), (3, .int dn)]) hx hb dX5_isSoughtAt_76 hl (k := 4) rfl (nI_1 _) (by decide) rfl (fun ls hl => ?_)
              refine lv_goto (tgt := 3) hx hb dX5_isSoughtAt_79 (by decide) ?_
              exact ih_3 (i + 1) _ _ _ (by omega) (fun t ht => by rcases Nat.lt_succ_iff_lt_or_eq.mp ht with h | h <;> first | exact he t h | (subst h; show ((decide _ || decide _) && decide _) = true; rw [Bool.and_eq_true, Bool.or_eq_true]; exact ⟨by first | exact Or.inl (decide_eq_true c17) | exact Or.inr (decide_eq_true c40), decide_eq_true c71⟩)) (by omega) hP hS (lv_sub hl [1, 2, 3, 4, 0] rfl)
            · skip
              refine lv_iconst (v := nI 0) hx hb dX5_isSoughtAt_74 (by decide) ?_
              exact hret _ _ 75 _ _ hS dX5_isSoughtAt_75 (bI_0 (fun h => by have h9 := (ff_all_iff _ _).mp h i (by omega); simp [c71] at h9))
          · skip
            refine lv_iconst (v := nI 0) hx hb dX5_isSoughtAt_43 (by decide) ?_
            exact hret _ _ 44 _ _ hS dX5_isSoughtAt_44 (bI_0 (fun h => by have h9 := (ff_all_iff _ _).mp h i (by omega); simp [c17, c40] at h9))
  exact lp_3 (_ + 1) (0) _ _ _ (Nat.zero_le _) (fun t h => absurd h (Nat.not_lt_zero _)) (Nat.lt_succ_self _) hP hS (lv_sub hl [1, 2, 3, 4, 0] rfl)
end
section
set_option maxHeartbeats 4000000 in
set_option maxRecDepth 100000 in
theorem k_lookForSought (l : Launch) (D : va_G) (cI : ClassId) (a0 n0 t0 s0 r0 g0 p0 q0 : Nat) (n1 n2 nn : Nat) (NP NL : Nat → Int32) (s1 s2 sn : Nat) (SP SL : Nat → Int32) (p1 : Nat) (pn : Int32) (PS : Nat → Int32) (up dn : Int32) (hn : nn ≤ 60) (hs1 : 1 ≤ sn) (hs : sn ≤ 12) : Cv l yX5_lookForSought cX5_lookForSought 4 2 0 0 D (tI cI) [.ref a0, .int up, .int dn] [(a0, .inr (5, [.ref n0, .ref t0, .ref s0, .ref r0, .ref g0, .ref p0, .ref q0])), (n0, .inr (1, [.ref n1, .ref n2, .int (nI nn)])), (n1, oI cI 60 NP), (n2, oI cI 60 NL), (s0, .inr (1, [.ref s1, .ref s2, .int (nI sn)])), (s1, oI cI 60 SP), (s2, oI cI 60 SL), (p0, .inr (3, [.ref p1, .int pn])), (p1, oI cI 60 PS)] (S := Nat → Int32) (fun u => ff_hits (ff_at NP NL SP SL sn up dn) (nn + 1 - sn) u) (fun u => [(a0, .inr (5, [.ref n0, .ref t0, .ref s0, .ref r0, .ref g0, .ref p0, .ref q0])), (n0, .inr (1, [.ref n1, .ref n2, .int (nI nn)])), (n1, oI cI 60 NP), (n2, oI cI 60 NL), (s0, .inr (1, [.ref s1, .ref s2, .int (nI sn)])), (s1, oI cI 60 SP), (s2, oI cI 60 SL), (p0, .inr (3, [.ref p1, .int (nI (ff_ct (ff_at NP NL SP SL sn up dn) (nn + 1 - sn)))])), (p1, oI cI 60 u)]) := by
  refine Cv.of (own := RX5) (lv := [(0, .ref a0), (1, .int up), (2, .int dn)]) (by decide +kernel) rfl (Nat.le_of_ble_eq_true rfl) rfl ?_
  intro p e s m args below meth c Q A cx hin hK hP hD hA hret ls hl
  obtain ⟨hx, hb, hml, hown, hg⟩ := id cx
  have hS : va_S A s.heap s.heap [] := va_S.rf
  refine lv_aload_n hx hb dX5_lookForSought_0 rfl (lv_at hl 0 rfl) ?_
  refine gf_X5_39 hx hb hg hown hK hP 0 rfl rfl dX5_lookForSought_1 ?_
  refine lv_iconst (v := nI 0) hx hb dX5_lookForSought_4 (by decide) ?_
  refine pf_X5_55 hx hb hg hown hK hP hD hS 7 rfl (Nat.le_of_ble_eq_true rfl) dX5_lookForSought_5 (fun H locs hP hD hS => ?_)
  have hP : va_P D vwCl [(a0, .inr (5, [.ref n0, .ref t0, .ref s0, .ref r0, .ref g0, .ref p0, .ref q0])), (n0, .inr (1, [.ref n1, .ref n2, .int (nI nn)])), (n1, oI cI 60 NP), (n2, oI cI 60 NL), (s0, .inr (1, [.ref s1, .ref s2, .int (nI sn)])), (s1, oI cI 60 SP), (s2, oI cI 60 SL), (p0, .inr (3, [.ref p1, .int (nI 0)])), (p1, oI cI 60 PS)] H := hP
  have hD : va_D A [(a0, .inr (5, [.ref n0, .ref t0, .ref s0, .ref r0, .ref g0, .ref p0, .ref q0])), (n0, .inr (1, [.ref n1, .ref n2, .int (nI nn)])), (n1, oI cI 60 NP), (n2, oI cI 60 NL), (s0, .inr (1, [.ref s1, .ref s2, .int (nI sn)])), (s1, oI cI 60 SP), (s2, oI cI 60 SL), (p0, .inr (3, [.ref p1, .int (nI 0)])), (p1, oI cI 60 PS)] := hD
  refine lv_iconst (v := nI 0) hx hb dX5_lookForSought_8 (by decide) ?_
  refine lv_istore_n (lv' := [(3, .int (nI 0)), (0, .ref a0), (1, .int up), (2, .int dn)]) hx hb dX5_lookForSought_9 rfl hl (by decide) rfl (fun ls hl => ?_)
  have lp_10 : ∀ (k : Nat) (z : Nat) (G : Nat → Int32) (H : Heap) (locs : List Loc) (ls : Array Slot), (z ≤ nn + 1 - sn) → (ff_hits (ff_at NP NL SP SL sn up dn) z G) → (nn + 1 - sn - z < k) → va_P D vwCl [(a0, .inr (5, [.ref n0, .ref t0, .ref s0, .ref r0, .ref g0, .ref p0, .ref q0])), (n0, .inr (1, [.ref n1, .ref n2, .int (nI nn)])), (n1, oI cI 60 NP), (n2, oI cI 60 NL), (s0, .inr (1, [.ref s1, .ref s2, .int (nI sn)])), (s1, oI cI 60 SP), (s2, oI cI 60 SL), (p0, .inr (3, [.ref p1, .int (nI (ff_ct (ff_at NP NL SP SL sn up dn) z))])), (p1, oI cI 60 G)] H → va_D A [(a0, .inr (5, [.ref n0, .ref t0, .ref s0, .ref r0, .ref g0, .ref p0, .ref q0])), (n0, .inr (1, [.ref n1, .ref n2, .int (nI nn)])), (n1, oI cI 60 NP), (n2, oI cI 60 NL), (s0, .inr (1, [.ref s1, .ref s2, .int (nI sn)])), (s1, oI cI 60 SP), (s2, oI cI 60 SL), (p0, .inr (3, [.ref p1, .int (nI (ff_ct (ff_at NP NL SP SL sn up dn) z))])), (p1, oI cI 60 G)] → va_S A s.heap H locs → lv_has ls 4 [(0, .ref a0), (1, .int up), (2, .int dn), (3, .int (nI z))] → W p l e (rr 2 0 0) s m args below meth c H locs 0 0 Q (F0 m 10 ls []) := by
    intro k
    induction k with
    | zero =>
      intro z G H locs ls hz hG hk
      exact absurd hk (Nat.not_lt_zero _)
    | succ k ih_10 =>
      intro z G H locs ls hz hG hk hP hD hS hl
      have hcz := ff_ct_le (ff_at NP NL SP SL sn up dn) z
      refine lv_iload_n hx hb dX5_lookForSought_10 rfl (lv_at hl 3 rfl) ?_
      refine lv_aload_n hx hb dX5_lookForSought_11 rfl (lv_at hl 0 rfl) ?_
      refine gf_X5_19 hx hb hg hown hK hP 0 rfl rfl dX5_lookForSought_12 ?_
      refine gf_X5_50 hx hb hg hown hK hP 4 rfl rfl dX5_lookForSought_15 ?_
      refine lv_iadd hx hb dX5_lookForSought_18 ?_
      refine lv_asi (nI_add _ _) ?_
      refine lv_aload_n hx hb dX5_lookForSought_19 rfl (lv_at hl 0 rfl) ?_
      refine gf_X5_10 hx hb hg hown hK hP 0 rfl rfl dX5_lookForSought_20 ?_
      refine gf_X5_50 hx hb hg hown hK hP 1 rfl rfl dX5_lookForSought_23 ?_
      refine lv_icmp_gt (tgt := 53) hx hb dX5_lookForSought_26 (by decide) (fun c26 => ?_) (fun c26 => ?_)
      · have c26 := (nI_ltI (by omega) (by omega)).mp c26
        obtain rfl : z = nn + 1 - sn := by omega
        exact hret _ _ 53 _ (_) (hG) hP hD hS dX5_lookForSought_53
      · have c26 := mt (nI_ltI (by omega) (by omega)).mpr c26
        refine lv_aload_n hx hb dX5_lookForSought_29 rfl (lv_at hl 0 rfl) ?_
        refine lv_iload_n hx hb dX5_lookForSought_30 rfl (lv_at hl 3 rfl) ?_
        refine lv_iload_n hx hb dX5_lookForSought_31 rfl (lv_at hl 1 rfl) ?_
        refine lv_iload_n hx hb dX5_lookForSought_32 rfl (lv_at hl 2 rfl) ?_
        refine Cp.callV (As := [.int (nI z), .int up, .int dn]) (rest := []) (cv_X5_198 hg ⟨Nat.le_of_ble_eq_true rfl, Nat.le_of_ble_eq_true rfl⟩) (k_isSoughtAt l D cI a0 n0 t0 s0 r0 g0 p0 q0 n1 n2 nn NP NL s1 s2 sn SP SL z up dn (by omega) hn hs) cx hK hP [0, 1, 2, 3, 4, 5, 6] rfl (rq := 0) rfl rfl rfl hS rfl hl.1 rfl (Nat.le_of_ble_eq_true rfl) dX5_lookForSought_33 ⟨Nat.zero_le _, Nat.zero_le _⟩ (fun H locs hP hS => ?_)
        refine lv_if_eq (tgt := 47) hx hb dX5_lookForSought_36 (by decide) (fun c36 => ?_) (fun c36 => ?_)
        · have c36 := bI_z.mp c36
          have e9 : ff_ct (ff_at NP NL SP SL sn up dn) (z + 1) = ff_ct (ff_at NP NL SP SL sn up dn) z := ff_ct_f c36
          refine lv_iinc (v := nI (z + 1)) (lv' := [(3, .int (nI (z + 1))), (0, .ref a0), (1, .int up), (2, .int dn)]) hx hb dX5_lookForSought_47 hl (k := 3) rfl (nI_1 _) (by decide) rfl (fun ls hl => ?_)
          refine lv_goto (tgt := 10) hx hb dX5_lookForSought_50 (by decide) ?_
          rw [← e9] at hP hD
          exact ih_10 (z + 1) (_) _ _ _ (by omega) (by first | exact ff_hits_t hG | exact ff_hits_f hG (by simpa using c36)) (by omega) hP hD hS (lv_sub hl [1, 2, 3, 0] rfl)
        · have c36 := bI_nz.mp c36
          have e9 : ff_ct (ff_at NP NL SP SL sn up dn) (z + 1) = ff_ct (ff_at NP NL SP SL sn up dn) z + 1 := ff_ct_t c36
          refine lv_aload_n hx hb dX5_lookForSought_39 rfl (lv_at hl 0 rfl) ?_
          refine gf_X5_39 hx hb hg hown hK hP 0 rfl rfl dX5_lookForSought_40 ?_
          refine lv_iload_n hx hb dX5_lookForSought_43 rfl (lv_at hl 3 rfl) ?_
          refine Cv.callV (As := [.int (nI z)]) (rest := []) (wr := [(a0, .inr (5, [.ref n0, .ref t0, .ref s0, .ref r0, .ref g0, .ref p0, .ref q0])), (n0, .inr (1, [.ref n1, .ref n2, .int (nI nn)])), (n1, oI cI 60 NP), (n2, oI cI 60 NL), (s0, .inr (1, [.ref s1, .ref s2, .int (nI sn)])), (s1, oI cI 60 SP), (s2, oI cI 60 SL)]) (wn := (fun u44 => [(a0, .inr (5, [.ref n0, .ref t0, .ref s0, .ref r0, .ref g0, .ref p0, .ref q0])), (n0, .inr (1, [.ref n1, .ref n2, .int (nI nn)])), (n1, oI cI 60 NP), (n2, oI cI 60 NL), (s0, .inr (1, [.ref s1, .ref s2, .int (nI sn)])), (s1, oI cI 60 SP), (s2, oI cI 60 SL), (p0, .inr (3, [.ref p1, .int (nI (ff_ct (ff_at NP NL SP SL sn up dn) z + 1))])), (p1, oI cI 60 (upd G (ff_ct (ff_at NP NL SP SL sn up dn) z) (nI z)))])) (cv_X5_201 hg ⟨Nat.le_of_ble_eq_true rfl, Nat.le_of_ble_eq_true rfl⟩) (k_X3_append l D cI p0 p1 (ff_ct (ff_at NP NL SP SL sn up dn) z) G (nI z) (by omega)) cx hK hP hD hA [7, 8] [0, 1, 2, 3, 4, 5, 6] [0, 1, 2, 3, 4, 5, 6, 7, 8] rfl rfl (by decide) (fun _ => rfl) (rq := 0) rfl rfl rfl hS rfl hl.1 rfl (Nat.le_of_ble_eq_true rfl) dX5_lookForSought_44 ⟨Nat.le_refl _, Nat.le_refl _⟩ (fun H locs u44 p44 hP hD hS => ?_)
          refine lv_iinc (v := nI (z + 1)) (lv' := [(3, .int (nI (z + 1))), (0, .ref a0), (1, .int up), (2, .int dn)]) hx hb dX5_lookForSought_47 hl (k := 3) rfl (nI_1 _) (by decide) rfl (fun ls hl => ?_)
          refine lv_goto (tgt := 10) hx hb dX5_lookForSought_50 (by decide) ?_
          rw [← e9] at hP hD
          exact ih_10 (z + 1) (_) _ _ _ (by omega) (by first | exact ff_hits_t hG | exact ff_hits_f hG (by simpa using c36)) (by omega) hP hD hS (lv_sub hl [1, 2, 3, 0] rfl)
  exact lp_10 (_ + 1) (0) (PS) _ _ _ (Nat.zero_le _) (ff_hits_0 _ _) (Nat.lt_succ_self _) hP hD hS (lv_sub hl [1, 2, 3, 0] rfl)
end
section
/-! repeats: pairs in order, how many of each length, where each lies -/
def ff_rw (i j : Nat) : List (Nat × Nat) := (List.range (j - (i + 1))).map (fun t => (i, i + 1 + t))
def ff_ar (n : Nat) : Nat → List (Nat × Nat)
  | 0 => []
  | i + 1 => ff_ar n i ++ ff_rw i n
def ff_pp (n i j : Nat) : List (Nat × Nat) := ff_ar n i ++ ff_rw i j
theorem ff_pp_0 (n i : Nat) : ff_pp n i (i + 1) = ff_ar n i := by
  unfold ff_pp ff_rw
  rw [Nat.sub_self]
  simp
theorem ff_pp_n (n i : Nat) : ff_pp n i n = ff_ar n (i + 1) := rfl
theorem ff_pp_s {n i j : Nat} (h : i + 1 ≤ j) : ff_pp n i (j + 1) = ff_pp n i j ++ [(i, j)] := by
  unfold ff_pp ff_rw
  rw [show j + 1 - (i + 1) = j - (i + 1) + 1 by omega, List.range_succ, List.map_append, List.append_assoc]
  simp
  omega
theorem ff_ar_pre (n : Nat) : ∀ {a b : Nat}, a ≤ b → ∃ r, ff_ar n b = ff_ar n a ++ r
  | a, 0, h => ⟨[], by rw [show a = 0 by omega]; simp⟩
  | a, b + 1, h => by
    by_cases hb : a = b + 1
    · subst hb; exact ⟨[], by simp⟩
    · obtain ⟨r, hr⟩ := ff_ar_pre n (show a ≤ b by omega)
      exact ⟨r ++ ff_rw b n, by show ff_ar n b ++ ff_rw b n = _; rw [hr, List.append_assoc]⟩
theorem ff_pp_pre {n i j : Nat} (hi : i < n) (hj : j ≤ n) : ∃ r, ff_ar n n = ff_pp n i j ++ r := by
  obtain ⟨r, hr⟩ := ff_ar_pre n (show i + 1 ≤ n from hi)
  have h1 : ∃ r2, ff_rw i n = ff_rw i j ++ r2 := by
    unfold ff_rw
    have : n - (i + 1) = (j - (i + 1)) + (n - (i + 1) - (j - (i + 1))) := by omega
    rw [this, List.range_add, List.map_append]
    exact ⟨_, rfl⟩
  obtain ⟨r2, h2⟩ := h1
  refine ⟨r2 ++ r, ?_⟩
  rw [hr]
  show (ff_ar n i ++ ff_rw i n) ++ r = (ff_ar n i ++ ff_rw i j) ++ (r2 ++ r)
  rw [h2]
  simp
def ff_F (r : Nat → Nat → Nat) (m : Nat) (ps : List (Nat × Nat)) : List (Nat × Nat) := ps.filter (fun q => decide (r q.1 q.2 = m))
def ff_cn (r : Nat → Nat → Nat) (least : Nat) (ps : List (Nat × Nat)) (m : Nat) : Nat := if least ≤ m then (ff_F r m ps).length else 0
theorem ff_F_t {r : Nat → Nat → Nat} {m i j : Nat} {ps : List (Nat × Nat)} (h : r i j = m) : ff_F r m (ps ++ [(i, j)]) = ff_F r m ps ++ [(i, j)] := by
  unfold ff_F
  rw [List.filter_append]
  simp [h]
theorem ff_F_f {r : Nat → Nat → Nat} {m i j : Nat} {ps : List (Nat × Nat)} (h : ¬ r i j = m) : ff_F r m (ps ++ [(i, j)]) = ff_F r m ps := by
  unfold ff_F
  rw [List.filter_append]
  simp [h]
theorem ff_cn_t {r : Nat → Nat → Nat} {least i j : Nat} {ps : List (Nat × Nat)} (h : least ≤ r i j) : ff_cn r least (ps ++ [(i, j)]) (r i j) = ff_cn r least ps (r i j) + 1 := by
  unfold ff_cn
  rw [if_pos h, if_pos h, ff_F_t rfl]
  simp
theorem ff_cn_f {r : Nat → Nat → Nat} {least i j m : Nat} {ps : List (Nat × Nat)} (h : ¬ r i j = m ∨ ¬ least ≤ m) : ff_cn r least (ps ++ [(i, j)]) m = ff_cn r least ps m := by
  unfold ff_cn
  split
  · rename_i hl
    rw [ff_F_f (h.resolve_right (fun q => q hl))]
  · rfl
def ff_sm (f : Nat → Nat) : Nat → Nat
  | 0 => 0
  | k + 1 => ff_sm f k + f k
def ff_G (c : Nat → Nat) (m : Nat) : Nat := ff_sm (fun t => c (59 - t)) (59 - m)
theorem ff_G_s {c : Nat → Nat} {q : Nat} (h0 : 1 ≤ q) (h : q ≤ 59) : ff_G c (q - 1) = ff_G c q + c q := by
  unfold ff_G
  rw [show 59 - (q - 1) = 59 - q + 1 by omega]
  show ff_sm _ (59 - q) + c (59 - (59 - q)) = _
  rw [show 59 - (59 - q) = q by omega]
theorem ff_G_59 (c : Nat → Nat) : ff_G c 59 = 0 := rfl
theorem ff_sm_mono (f : Nat → Nat) {a b : Nat} (h : a ≤ b) : ff_sm f a ≤ ff_sm f b := by
  induction b with
  | zero => rw [show a = 0 by omega]; exact Nat.le_refl _
  | succ b ih =>
    by_cases hb : a = b + 1
    · subst hb; exact Nat.le_refl _
    · exact Nat.le_trans (ih (by omega)) (Nat.le_add_right _ _)
theorem ff_G_mono (c : Nat → Nat) {a b : Nat} (h : a ≤ b) : ff_G c b ≤ ff_G c a := ff_sm_mono _ (by omega)
theorem ff_G_in {c : Nat → Nat} {a b : Nat} (h : a < b) (hb : b ≤ 59) : ff_G c b + c b ≤ ff_G c a := by
  rw [← ff_G_s (by omega) hb]
  exact ff_G_mono c (by omega)
/-- places of different ones are different -/
theorem ff_G_inj {c : Nat → Nat} {a b t u : Nat} (ha : a ≤ 59) (hb : b ≤ 59) (ht : t < c a) (hu : u < c b) (h : ff_G c a + t = ff_G c b + u) : a = b ∧ t = u := by
  rcases Nat.lt_trichotomy a b with q | q | q
  · have := ff_G_in (c := c) q hb
    omega
  · subst q; exact ⟨rfl, by omega⟩
  · have := ff_G_in (c := c) q ha
    omega
theorem ff_G_sur {c : Nat → Nat} : ∀ (d k : Nat), d ≤ 59 → k < ff_G c (59 - d) → ∃ m, 59 - d < m ∧ m ≤ 59 ∧ ff_G c m ≤ k ∧ k < ff_G c m + c m
  | 0, k, _, h => absurd h (by rw [show 59 - 0 = 59 from rfl, ff_G_59]; omega)
  | d + 1, k, hd, h => by
    by_cases hk : k < ff_G c (59 - d)
    · obtain ⟨m, h1, h2, h3, h4⟩ := ff_G_sur d k (by omega) hk
      exact ⟨m, by omega, h2, h3, h4⟩
    · refine ⟨59 - d, by omega, by omega, by omega, ?_⟩
      have := ff_G_s (c := c) (q := 59 - d) (by omega) (by omega)
      rw [show 59 - d - 1 = 59 - (d + 1) by omega] at this
      omega
/-- the row holds the repeats of the pairs ps, each at its place -/
def ff_rowsP (r : Nat → Nat → Nat) (least : Nat) (G : Nat → Nat) (ps : List (Nat × Nat)) (row : Nat → Int32) : Prop :=
  ∀ m, least ≤ m → m < 60 → ∀ (t : Nat) (q : Nat × Nat), (ff_F r m ps)[t]? = some q → row (3 * (G m + t)) = nI q.1 ∧ row (3 * (G m + t) + 1) = nI q.2 ∧ row (3 * (G m + t) + 2) = nI m
theorem ff_rowsP_f {r : Nat → Nat → Nat} {least i j : Nat} {G : Nat → Nat} {ps : List (Nat × Nat)} {row : Nat → Int32} (h : ff_rowsP r least G ps row) (hl : ¬ least ≤ r i j) : ff_rowsP r least G (ps ++ [(i, j)]) row := by
  intro m hm hm2 t q hq
  rw [ff_F_f (by omega)] at hq
  exact h m hm hm2 t q hq
theorem ff_rowsP_t {r : Nat → Nat → Nat} {least i j : Nat} {row : Nat → Int32} {all ps rest : List (Nat × Nat)} (hall : all = (ps ++ [(i, j)]) ++ rest) (h : ff_rowsP r least (ff_G (ff_cn r least all)) ps row) (hl : least ≤ r i j) (h6 : r i j < 60) (k : Nat) (hk : k = ff_G (ff_cn r least all) (r i j) + (ff_F r (r i j) ps).length) :
    ff_rowsP r least (ff_G (ff_cn r least all)) (ps ++ [(i, j)]) (upd (upd (upd row (3 * k) (nI i)) (3 * k + 1) (nI j)) (3 * k + 2) (nI (r i j))) := by
  have len : ∀ m, least ≤ m → (ff_F r m (ps ++ [(i, j)])).length ≤ ff_cn r least all m := by
    intro m hm
    unfold ff_cn
    rw [if_pos hm, hall]
    unfold ff_F
    rw [List.filter_append (ps ++ [(i, j)]) rest, List.length_append]
    omega
  intro m hm hm2 t q hq
  have ht : t < (ff_F r m (ps ++ [(i, j)])).length := (List.getElem?_eq_some_iff.mp hq).1
  have htc := len m hm
  have hkc := len (r i j) hl
  rw [ff_F_t rfl] at hkc
  simp only [List.length_append, List.length_singleton] at hkc
  by_cases hmt : m = r i j ∧ t = (ff_F r (r i j) ps).length
  · obtain ⟨rfl, rfl⟩ := hmt
    rw [ff_F_t rfl, List.getElem?_append_right (Nat.le_refl _), Nat.sub_self] at hq
    cases hq
    rw [← hk]
    refine ⟨?_, ?_, ?_⟩
    · rw [pk_un (by omega), pk_un (by omega), pk_us]
    · rw [pk_un (by omega), pk_us]
    · rw [pk_us]
  · have hne : ff_G (ff_cn r least all) m + t ≠ k := by
      intro e
      rw [hk] at e
      obtain ⟨h1, h2⟩ := ff_G_inj (c := ff_cn r least all) (by omega) (by omega) (by omega) (by omega) e
      exact hmt ⟨h1, h2⟩
    have hq2 : (ff_F r m ps)[t]? = some q := by
      by_cases h1 : r i j = m
      · subst h1
        rw [ff_F_t rfl] at hq ht
        simp only [List.length_append, List.length_singleton] at ht
        rw [List.getElem?_append_left (by omega)] at hq
        exact hq
      · rw [ff_F_f h1] at hq
        exact hq
    obtain ⟨e1, e2, e3⟩ := h m hm hm2 t q hq2
    refine ⟨?_, ?_, ?_⟩
    · rw [pk_un (by omega), pk_un (by omega), pk_un (by omega)]; exact e1
    · rw [pk_un (by omega), pk_un (by omega), pk_un (by omega)]; exact e2
    · rw [pk_un (by omega), pk_un (by omega), pk_un (by omega)]; exact e3
/-- two rows that hold the same repeats are the same -/
theorem ff_rows_eq {r : Nat → Nat → Nat} {least : Nat} {all : List (Nat × Nat)} {a b : Nat → Int32} (ha : ff_rowsP r least (ff_G (ff_cn r least all)) all a) (hb : ff_rowsP r least (ff_G (ff_cn r least all)) all b) {k w : Nat} (hk : k < ff_G (ff_cn r least all) 0) (hw : w < 3) : a (3 * k + w) = b (3 * k + w) := by
  obtain ⟨m, h1, h2, h3, h4⟩ := ff_G_sur (c := ff_cn r least all) 59 k (by omega) hk
  have hl : least ≤ m := by
    apply Decidable.byContradiction
    intro h
    have : ff_cn r least all m = 0 := if_neg h
    omega
  have hc : ff_cn r least all m = (ff_F r m all).length := if_pos hl
  obtain ⟨t, ht⟩ : ∃ t, k = ff_G (ff_cn r least all) m + t := ⟨k - ff_G (ff_cn r least all) m, by omega⟩
  have htl : t < (ff_F r m all).length := by omega
  have hq := List.getElem?_eq_getElem htl
  obtain ⟨a1, a2, a3⟩ := ha m hl (by omega) t _ hq
  obtain ⟨b1, b2, b3⟩ := hb m hl (by omega) t _ hq
  subst ht
  rcases (show w = 0 ∨ w = 1 ∨ w = 2 by omega) with rfl | rfl | rfl
  · exact a1.trans b1.symm
  · exact a2.trans b2.symm
  · exact a3.trans b3.symm
/-! at most 900 -/
theorem ff_sm_add (f g : Nat → Nat) : ∀ k, ff_sm (fun t => f t + g t) k = ff_sm f k + ff_sm g k
  | 0 => rfl
  | k + 1 => by
    show ff_sm _ k + (f k + g k) = (ff_sm f k + f k) + (ff_sm g k + g k)
    rw [ff_sm_add f g k]; omega
theorem ff_sm_one (m : Nat) : ∀ k, k ≤ 59 → ff_sm (fun t => if m = 59 - t then 1 else 0) k ≤ (if 59 - k < m then 1 else 0)
  | 0, _ => Nat.zero_le _
  | k + 1, h => by
    have ih := ff_sm_one m k (by omega)
    show ff_sm _ k + (if m = 59 - k then 1 else 0) ≤ _
    split at ih <;> split <;> split <;> omega
theorem ff_sm_le {f g : Nat → Nat} (h : ∀ t, f t ≤ g t) : ∀ k, ff_sm f k ≤ ff_sm g k
  | 0 => Nat.le_refl _
  | k + 1 => Nat.add_le_add (ff_sm_le h k) (h k)
theorem ff_tot_le (r : Nat → Nat → Nat) : ∀ ps : List (Nat × Nat), ff_sm (fun t => (ff_F r (59 - t) ps).length) 59 ≤ (ps.filter (fun q => decide (0 < r q.1 q.2))).length
  | [] => by
    have : ∀ k, ff_sm (fun t => (ff_F r (59 - t) ([] : List (Nat × Nat))).length) k = 0 := by
      intro k
      induction k with
      | zero => rfl
      | succ k ih => show ff_sm _ k + 0 = 0; rw [ih]
    rw [this]
    exact Nat.zero_le _
  | q :: ps => by
    have ih := ff_tot_le r ps
    have e : (fun t => (ff_F r (59 - t) (q :: ps)).length) = (fun t => (ff_F r (59 - t) ps).length + (if r q.1 q.2 = 59 - t then 1 else 0)) := by
      funext t
      unfold ff_F
      rw [List.filter_cons]
      split
      · rename_i h; rw [if_pos (of_decide_eq_true h)]; rfl
      · rename_i h; rw [if_neg (fun q => h (decide_eq_true q))]; rfl
    rw [e, ff_sm_add]
    have h1 := ff_sm_one (r q.1 q.2) 59 (Nat.le_refl _)
    rw [List.filter_cons]
    by_cases h0 : 0 < r q.1 q.2
    · rw [if_pos (decide_eq_true h0), List.length_cons]
      split at h1 <;> omega
    · rw [if_neg (fun q => h0 (of_decide_eq_true q))]
      rw [if_neg (by omega)] at h1
      omega
theorem ff_row_ct (r : Nat → Nat → Nat) (i n : Nat) : ((ff_rw i n).filter (fun q => decide (0 < r q.1 q.2))).length = ff_ct (fun t => decide (0 < r i (i + 1 + t))) (n - (i + 1)) := by
  unfold ff_rw
  generalize n - (i + 1) = k
  induction k with
  | zero => rfl
  | succ k ih =>
    rw [List.range_succ, List.map_append, List.filter_append, List.length_append, ih]
    show _ = ff_ct _ k + _
    congr 1
    simp only [List.map_cons, List.map_nil, List.filter_cons, List.filter_nil]
    split <;> rfl
theorem ff_excl {p q : Nat → Bool} : ∀ k, (∀ t, t < k → ¬ (p t = true ∧ q t = true)) → ff_ct p k + ff_ct q k ≤ k
  | 0, _ => Nat.le_refl _
  | k + 1, h => by
    have ih := ff_excl k (fun t ht => h t (by omega))
    have h1 := h k (by omega)
    show (ff_ct p k + (if p k = true then 1 else 0)) + (ff_ct q k + (if q k = true then 1 else 0)) ≤ k + 1
    split <;> split <;> first | omega | (exfalso; exact h1 ⟨by assumption, by assumption⟩)
theorem ff_run_pos {f : Nat → Int32} {i j k : Nat} (h : 0 < ff_run f i j k) : f i = f j := by
  cases k with
  | zero => exact absurd h (Nat.lt_irrefl 0)
  | succ k =>
    unfold ff_run at h
    split at h
    · assumption
    · exact absurd h (Nat.lt_irrefl 0)
theorem ff_two (f : Nat → Int32) (n i : Nat) : ff_ct (fun t => decide (0 < ff_rl f n i (i + 1 + t))) (n - (i + 1)) + ff_ct (fun t => decide (0 < ff_rl f n (i + 1) (i + 1 + 1 + t))) (n - (i + 1 + 1)) ≤ n - (i + 1) := by
  by_cases hn : n - (i + 1) = 0
  · rw [hn, show n - (i + 1 + 1) = 0 by omega]
    exact Nat.le_refl _
  · obtain ⟨K, hK⟩ : ∃ K, n - (i + 1) = K + 1 := ⟨n - (i + 1) - 1, by omega⟩
    rw [hK, show n - (i + 1 + 1) = K by omega]
    have h1 := ff_excl (p := fun t => decide (0 < ff_rl f n i (i + 1 + t))) (q := fun t => decide (0 < ff_rl f n (i + 1) (i + 1 + 1 + t))) K (by
      rintro t ht ⟨ha, hb⟩
      have ha' := of_decide_eq_true ha
      have hb' := of_decide_eq_true hb
      have e : f i = f (i + 1 + t) := by
        unfold ff_rl at ha'
        split at ha'
        · exact absurd ha' (Nat.lt_irrefl 0)
        · exact ff_run_pos ha'
      unfold ff_rl at hb'
      rw [if_pos ⟨by omega, by rw [show i + 1 - 1 = i by omega, show i + 1 + 1 + t - 1 = i + 1 + t by omega]; exact e⟩] at hb'
      exact absurd hb' (Nat.lt_irrefl 0))
    have h2 : ff_ct (fun t => decide (0 < ff_rl f n i (i + 1 + t))) (K + 1) ≤ ff_ct (fun t => decide (0 < ff_rl f n i (i + 1 + t))) K + 1 := by
      show ff_ct _ K + _ ≤ _
      split <;> omega
    omega
def ff_B (n : Nat) : Nat → Nat
  | 0 => 0
  | b + 1 => ff_B n b + (n - (2 * b + 1))
theorem ff_T_le (f : Nat → Int32) (n : Nat) : ∀ b, ((ff_ar n (2 * b)).filter (fun q => decide (0 < ff_rl f n q.1 q.2))).length ≤ ff_B n b
  | 0 => Nat.le_refl _
  | b + 1 => by
    have ih := ff_T_le f n b
    have h2 := ff_two f n (2 * b)
    rw [show 2 * (b + 1) = 2 * b + 1 + 1 by omega]
    show (((ff_ar n (2 * b) ++ ff_rw (2 * b) n) ++ ff_rw (2 * b + 1) n).filter _).length ≤ ff_B n b + (n - (2 * b + 1))
    rw [List.filter_append, List.filter_append, List.length_append, List.length_append, ff_row_ct, ff_row_ct]
    omega
theorem ff_B_900 : ∀ n : Fin 61, ff_B n.val ((n.val + 1) / 2) ≤ 900 := by decide +kernel
theorem ff_all_900 (f : Nat → Int32) {n : Nat} (hn : n ≤ 60) : ((ff_ar n n).filter (fun q => decide (0 < ff_rl f n q.1 q.2))).length ≤ 900 := by
  have h1 := ff_T_le f n ((n + 1) / 2)
  have h2 := ff_B_900 ⟨n, by omega⟩
  obtain ⟨r, hr⟩ := ff_ar_pre n (show n ≤ 2 * ((n + 1) / 2) by omega)
  rw [hr, List.filter_append, List.length_append] at h1
  have h3 : ff_B n ((n + 1) / 2) ≤ 900 := h2
  omega
theorem ff_tot_900 (f : Nat → Int32) {n : Nat} (least : Nat) (hn : n ≤ 60) : ff_G (ff_cn (ff_rl f n) least (ff_ar n n)) 0 ≤ 900 := by
  refine Nat.le_trans ?_ (ff_all_900 f hn)
  refine Nat.le_trans ?_ (ff_tot_le (ff_rl f n) (ff_ar n n))
  refine ff_sm_le (fun t => ?_) 59
  unfold ff_cn
  split
  · exact Nat.le_refl _
  · exact Nat.zero_le _
theorem ff_rl_le (f : Nat → Int32) (n i j : Nat) : ff_rl f n i j ≤ n - j := by
  unfold ff_rl
  split
  · exact Nat.zero_le _
  · exact ff_run_le f _ _ _
end
section
theorem ff_S_t {r : Nat → Nat → Nat} {n least i j : Nat} {S : Nat → Int32} (h1 : i + 1 ≤ j) (hl : least ≤ r i j) (he : ∀ m, m < 60 → S m = nI (ff_cn r least (ff_pp n i j) m)) (h6 : r i j < 60) : ∀ m, m < 60 → upd S (r i j) (S (r i j) + nI 1) m = nI (ff_cn r least (ff_pp n i (j + 1)) m) := by
  intro m hm
  rw [ff_pp_s h1]
  by_cases h : m = r i j
  · subst h
    rw [pk_us, he _ hm, ff_cn_t hl, nI_add]
  · rw [pk_un h, he m hm, ff_cn_f (Or.inl (fun q => h q.symm))]
theorem ff_S_f {r : Nat → Nat → Nat} {n least i j : Nat} {S : Nat → Int32} (h1 : i + 1 ≤ j) (he : ∀ m, m < 60 → S m = nI (ff_cn r least (ff_pp n i j) m)) (hl : ¬ least ≤ r i j) : ∀ m, m < 60 → S m = nI (ff_cn r least (ff_pp n i (j + 1)) m) := by
  intro m hm
  rw [ff_pp_s h1, he m hm, ff_cn_f (by
    by_cases h : r i j = m
    · subst h; exact Or.inr hl
    · exact Or.inl h)]
theorem ff_P_t {r : Nat → Nat → Nat} {n least i j : Nat} {S : Nat → Int32} {G : Nat → Nat} (h1 : i + 1 ≤ j) (h6 : r i j < 60) (hs : ∀ m, least ≤ m → m < 60 → S m = nI (G m + (ff_F r m (ff_pp n i j)).length)) : ∀ m, least ≤ m → m < 60 → upd S (r i j) (nI (G (r i j) + (ff_F r (r i j) (ff_pp n i j)).length + 1)) m = nI (G m + (ff_F r m (ff_pp n i (j + 1))).length) := by
  intro m hm hm2
  rw [ff_pp_s h1]
  by_cases h : m = r i j
  · subst h
    rw [pk_us, ff_F_t rfl, List.length_append]
    rfl
  · rw [pk_un h, hs m hm hm2, ff_F_f (fun q => h q.symm)]
theorem ff_P_f {r : Nat → Nat → Nat} {n least i j : Nat} {S : Nat → Int32} {G : Nat → Nat} (h1 : i + 1 ≤ j) (hs : ∀ m, least ≤ m → m < 60 → S m = nI (G m + (ff_F r m (ff_pp n i j)).length)) (hl : r i j < least) : ∀ m, least ≤ m → m < 60 → S m = nI (G m + (ff_F r m (ff_pp n i (j + 1))).length) := by
  intro m hm hm2
  rw [ff_pp_s h1, hs m hm hm2, ff_F_f (by omega)]
theorem ff_place_lt {r : Nat → Nat → Nat} {least i j : Nat} {all ps rest : List (Nat × Nat)} (hall : all = (ps ++ [(i, j)]) ++ rest) (hl : least ≤ r i j) (h6 : 1 ≤ r i j ∧ r i j ≤ 59) : ff_G (ff_cn r least all) (r i j) + (ff_F r (r i j) ps).length < ff_G (ff_cn r least all) 0 := by
  have h1 := ff_G_in (c := ff_cn r least all) (show 0 < r i j by omega) h6.2
  have h2 : (ff_F r (r i j) (ps ++ [(i, j)])).length ≤ ff_cn r least all (r i j) := by
    unfold ff_cn
    rw [if_pos hl, hall]
    unfold ff_F
    rw [List.filter_append (ps ++ [(i, j)]) rest, List.length_append]
    omega
  rw [ff_F_t rfl] at h2
  simp only [List.length_append, List.length_singleton] at h2
  omega
end
section
set_option maxHeartbeats 4000000 in
set_option maxRecDepth 100000 in
theorem k_X4_countByLength (l : Launch) (D : va_G) (cI : ClassId) (a0 a1 a2 : Nat) (z : Int32) (g sl : Nat → Int32) (b0 b1 n : Nat) (f : Nat → Int32) (least : Nat) (h1 : 1 ≤ least) (h2 : least ≤ 60) (hn : n ≤ 60) : Cv l yX4_countByLength cX4_countByLength 6 2 0 0 D (tI cI) [.ref a0, .ref b0, .int (nI least)] [(a0, .inr (4, [.ref a1, .ref a2, .int z])), (a1, oI cI 2700 g), (a2, oI cI 60 sl), (b0, .inr (0, [.ref b1, .int (nI n)])), (b1, oI cI 60 f)] (S := Nat → Int32) (fun u => ∀ m, m < 60 → u m = nI (ff_cn (ff_rl f n) least (ff_ar n n) m)) (fun u => [(a0, .inr (4, [.ref a1, .ref a2, .int z])), (a1, oI cI 2700 g), (a2, oI cI 60 u), (b0, .inr (0, [.ref b1, .int (nI n)])), (b1, oI cI 60 f)]) := by
  refine Cv.of (own := RX4) (lv := [(0, .ref a0), (1, .ref b0), (2, .int (nI least))]) (by decide +kernel) rfl (Nat.le_of_ble_eq_true rfl) rfl ?_
  intro p e s m args below meth c Q A cx hin hK hP hD hA hret ls hl
  obtain ⟨hx, hb, hml, hown, hg⟩ := id cx
  have hS : va_S A s.heap s.heap [] := va_S.rf
  refine lv_iconst (v := nI 0) hx hb dX4_countByLength_0 (by decide) ?_
  refine lv_istore_n (lv' := [(3, .int (nI 0)), (0, .ref a0), (1, .ref b0), (2, .int (nI least))]) hx hb dX4_countByLength_1 rfl hl (by decide) rfl (fun ls hl => ?_)
  have lp_2 : ∀ (k : Nat) (i : Nat) (S : Nat → Int32) (H : Heap) (locs : List Loc) (ls : Array Slot), (i ≤ 60) → (∀ t, t < i → S t = nI 0) → (60 - i < k) → va_P D vwCl [(a0, .inr (4, [.ref a1, .ref a2, .int z])), (a1, oI cI 2700 g), (a2, oI cI 60 S), (b0, .inr (0, [.ref b1, .int (nI n)])), (b1, oI cI 60 f)] H → va_D A [(a0, .inr (4, [.ref a1, .ref a2, .int z])), (a1, oI cI 2700 g), (a2, oI cI 60 S), (b0, .inr (0, [.ref b1, .int (nI n)])), (b1, oI cI 60 f)] → va_S A s.heap H locs → lv_has ls 6 [(0, .ref a0), (1, .ref b0), (2, .int (nI least)), (3, .int (nI i))] → W p l e (rr 2 0 0) s m args below meth c H locs 0 0 Q (F0 m 2 ls []) := by
    intro k
    induction k with
    | zero =>
      intro i S H locs ls hi he hk
      exact absurd hk (Nat.not_lt_zero _)
    | succ k ih_2 =>
      intro i S H locs ls hi he hk hP hD hS hl
      refine lv_iload_n hx hb dX4_countByLength_2 rfl (lv_at hl 3 rfl) ?_
      refine lv_bipush (v := nI 60) hx hb dX4_countByLength_3 (by decide) ?_
      refine lv_icmp_ge (tgt := 21) hx hb dX4_countByLength_5 (by decide) (fun c5 => ?_) (fun c5 => ?_)
      · have c5 := (nI_leI (by omega) (by omega)).mp c5
        refine lv_iconst (v := nI 0) hx hb dX4_countByLength_21 (by decide) ?_
        refine lv_istore_n (lv' := [(3, .int (nI 0)), (0, .ref a0), (1, .ref b0), (2, .int (nI least))]) hx hb dX4_countByLength_22 rfl hl (by decide) rfl (fun ls hl => ?_)
        have lp_23 : ∀ (k : Nat) (i : Nat) (S : Nat → Int32) (H : Heap) (locs : List Loc) (ls : Array Slot), (i ≤ n) → (∀ m, m < 60 → S m = nI (ff_cn (ff_rl f n) least (ff_ar n i) m)) → (n - i < k) → va_P D vwCl [(a0, .inr (4, [.ref a1, .ref a2, .int z])), (a1, oI cI 2700 g), (a2, oI cI 60 S), (b0, .inr (0, [.ref b1, .int (nI n)])), (b1, oI cI 60 f)] H → va_D A [(a0, .inr (4, [.ref a1, .ref a2, .int z])), (a1, oI cI 2700 g), (a2, oI cI 60 S), (b0, .inr (0, [.ref b1, .int (nI n)])), (b1, oI cI 60 f)] → va_S A s.heap H locs → lv_has ls 6 [(0, .ref a0), (1, .ref b0), (2, .int (nI least)), (3, .int (nI i))] → W p l e (rr 2 0 0) s m args below meth c H locs 0 0 Q (F0 m 23 ls []) := by
          intro k
          induction k with
          | zero =>
            intro i S H locs ls hi he hk
            exact absurd hk (Nat.not_lt_zero _)
          | succ k ih_23 =>
            intro i S H locs ls hi he hk hP hD hS hl
            refine lv_iload_n hx hb dX4_countByLength_23 rfl (lv_at hl 3 rfl) ?_
            refine lv_aload_n hx hb dX4_countByLength_24 rfl (lv_at hl 1 rfl) ?_
            refine gf_X4_28 hx hb hg hown hK hP 3 rfl rfl dX4_countByLength_25 ?_
            refine lv_icmp_ge (tgt := 83) hx hb dX4_countByLength_28 (by decide) (fun c28 => ?_) (fun c28 => ?_)
            · have c28 := (nI_leI (by omega) (by omega)).mp c28
              obtain rfl : i = n := by omega
              exact hret _ _ 83 _ (_) (he) hP hD hS dX4_countByLength_83
            · have c28 := mt (nI_leI (by omega) (by omega)).mpr c28
              refine lv_iload_n hx hb dX4_countByLength_31 rfl (lv_at hl 3 rfl) ?_
              refine lv_iconst (v := nI 1) hx hb dX4_countByLength_32 (by decide) ?_
              refine lv_iadd hx hb dX4_countByLength_33 ?_
              refine lv_asi (nI_add _ _) ?_
              refine lv_istore (lv' := [(4, .int (nI (i + 1))), (0, .ref a0), (1, .ref b0), (2, .int (nI least)), (3, .int (nI i))]) hx hb dX4_countByLength_34 hl (by decide) rfl (fun ls hl => ?_)
              have lp_36 : ∀ (k : Nat) (j : Nat) (S : Nat → Int32) (H : Heap) (locs : List Loc) (ls : Array Slot), (i + 1 ≤ j) → (j ≤ n) → (∀ m, m < 60 → S m = nI (ff_cn (ff_rl f n) least (ff_pp n i j) m)) → (n - j < k) → va_P D vwCl [(a0, .inr (4, [.ref a1, .ref a2, .int z])), (a1, oI cI 2700 g), (a2, oI cI 60 S), (b0, .inr (0, [.ref b1, .int (nI n)])), (b1, oI cI 60 f)] H → va_D A [(a0, .inr (4, [.ref a1, .ref a2, .int z])), (a1, oI cI 2700 g), (a2, oI cI 60 S), (b0, .inr (0, [.ref b1, .int (nI n)])), (b1, oI cI 60 f)] → va_S A s.heap H locs → lv_has ls 6 [(0, .ref a0), (1, .ref b0), (2, .int (nI least)), (3, .int (nI i)), (4, .int (nI j))] → W p l e (rr 2 0 0) s m args below meth c H locs 0 0 Q (F0 m 36 ls []) := by
                intro k
                induction k with
                | zero =>
                  intro j S H locs ls hj1 hj he hk
                  exact absurd hk (Nat.not_lt_zero _)
                | succ k ih_36 =>
                  intro j S H locs ls hj1 hj he hk hP hD hS hl
                  refine lv_iload hx hb dX4_countByLength_36 (lv_at hl 4 rfl) ?_
                  refine lv_aload_n hx hb dX4_countByLength_38 rfl (lv_at hl 1 rfl) ?_
                  refine gf_X4_28 hx hb hg hown hK hP 3 rfl rfl dX4_countByLength_39 ?_
                  refine lv_icmp_ge (tgt := 77) hx hb dX4_countByLength_42 (by decide) (fun c42 => ?_) (fun c42 => ?_)
                  · have c42 := (nI_leI (by omega) (by omega)).mp c42
                    refine lv_iinc (v := nI (i + 1)) (lv' := [(3, .int (nI (i + 1))), (0, .ref a0), (1, .ref b0), (2, .int (nI least)), (4, .int (nI j))]) hx hb dX4_countByLength_77 hl (k := 3) rfl (nI_1 _) (by decide) rfl (fun ls hl => ?_)
                    refine lv_goto (tgt := 23) hx hb dX4_countByLength_80 (by decide) ?_
                    exact ih_23 (i + 1) (_) _ _ _ (by omega) (fun m hm => by rw [he m hm, show j = n by omega, ff_pp_n]) (by omega) hP hD hS (lv_sub hl [1, 2, 3, 0] rfl)
                  · have c42 := mt (nI_leI (by omega) (by omega)).mpr c42
                    refine lv_aload_n hx hb dX4_countByLength_45 rfl (lv_at hl 1 rfl) ?_
                    refine lv_iload_n hx hb dX4_countByLength_46 rfl (lv_at hl 3 rfl) ?_
                    refine lv_iload hx hb dX4_countByLength_47 (lv_at hl 4 rfl) ?_
                    refine Cp.callV (As := [.int (nI i), .int (nI j)]) (rest := []) (cv_X4_34 hg ⟨Nat.le_of_ble_eq_true rfl, Nat.le_of_ble_eq_true rfl⟩) (k_X0_repeatLength l D cI b0 b1 n f i j (by omega) (by omega) hn) cx hK hP [3, 4] rfl (rq := 0) rfl rfl rfl hS rfl hl.1 rfl (Nat.le_of_ble_eq_true rfl) dX4_countByLength_49 ⟨Nat.zero_le _, Nat.zero_le _⟩ (fun H locs hP hS => ?_)
                    have hrl := ff_rl_le f n i j
                    refine lv_istore (lv' := [(5, .int (nI (ff_rl f n i j))), (0, .ref a0), (1, .ref b0), (2, .int (nI least)), (3, .int (nI i)), (4, .int (nI j))]) hx hb dX4_countByLength_52 hl (by decide) rfl (fun ls hl => ?_)
                    refine lv_iload hx hb dX4_countByLength_54 (lv_at hl 0 rfl) ?_
                    refine lv_iload_n hx hb dX4_countByLength_56 rfl (lv_at hl 3 rfl) ?_
                    refine lv_icmp_lt (tgt := 71) hx hb dX4_countByLength_57 (by decide) (fun c57 => ?_) (fun c57 => ?_)
                    · have c57 := (nI_ltI (by omega) (by omega)).mp c57
                      refine lv_iinc (v := nI (j + 1)) (lv' := [(4, .int (nI (j + 1))), (5, .int (nI (ff_rl f n i j))), (0, .ref a0), (1, .ref b0), (2, .int (nI least)), (3, .int (nI i))]) hx hb dX4_countByLength_71 hl (k := 5) rfl (nI_1 _) (by decide) rfl (fun ls hl => ?_)
                      refine lv_goto (tgt := 36) hx hb dX4_countByLength_74 (by decide) ?_
                      exact ih_36 (j + 1) (_) _ _ _ (by omega) (by omega) (by first | exact ff_S_t (by omega) (by omega) he (by omega) | exact ff_S_f (by omega) he (by omega)) (by omega) hP hD hS (lv_sub hl [2, 3, 4, 5, 0] rfl)
                    · have c57 := mt (nI_ltI (by omega) (by omega)).mpr c57
                      refine lv_aload_n hx hb dX4_countByLength_60 rfl (lv_at hl 1 rfl) ?_
                      refine gf_X4_15 hx hb hg hown hK hP 0 rfl rfl dX4_countByLength_61 ?_
                      refine lv_iload hx hb dX4_countByLength_64 (lv_at hl 0 rfl) ?_
                      refine lv_dup2_11 hx hb dX4_countByLength_66 rfl rfl ?_
                      refine ald hx hb hK hP 2 rfl rfl (by omega) dX4_countByLength_67 ?_
                      refine lv_iconst (v := nI 1) hx hb dX4_countByLength_68 (by decide) ?_
                      refine lv_iadd hx hb dX4_countByLength_69 ?_
                      refine ast hx hb hK hP hD hS 2 rfl rfl (by omega) dX4_countByLength_70 (fun H locs hP hD hS => ?_)
                      have hP : va_P D vwCl [(a0, .inr (4, [.ref a1, .ref a2, .int z])), (a1, oI cI 2700 g), (a2, oI cI 60 (upd S (ff_rl f n i j) (((S (ff_rl f n i j)) + nI 1)))), (b0, .inr (0, [.ref b1, .int (nI n)])), (b1, oI cI 60 f)] H := hP
                      have hD : va_D A [(a0, .inr (4, [.ref a1, .ref a2, .int z])), (a1, oI cI 2700 g), (a2, oI cI 60 (upd S (ff_rl f n i j) (((S (ff_rl f n i j)) + nI 1)))), (b0, .inr (0, [.ref b1, .int (nI n)])), (b1, oI cI 60 f)] := hD
                      refine lv_iinc (v := nI (j + 1)) (lv' := [(4, .int (nI (j + 1))), (5, .int (nI (ff_rl f n i j))), (0, .ref a0), (1, .ref b0), (2, .int (nI least)), (3, .int (nI i))]) hx hb dX4_countByLength_71 hl (k := 5) rfl (nI_1 _) (by decide) rfl (fun ls hl => ?_)
                      refine lv_goto (tgt := 36) hx hb dX4_countByLength_74 (by decide) ?_
                      exact ih_36 (j + 1) (_) _ _ _ (by omega) (by omega) (by first | exact ff_S_t (by omega) (by omega) he (by omega) | exact ff_S_f (by omega) he (by omega)) (by omega) hP hD hS (lv_sub hl [2, 3, 4, 5, 0] rfl)
              exact lp_36 (_ + 1) (i + 1) (S) _ _ _ (Nat.le_refl _) (by omega) (fun m hm => by rw [he m hm, ff_pp_0]) (Nat.lt_succ_self _) hP hD hS (lv_sub hl [1, 2, 3, 4, 0] rfl)
        exact lp_23 (_ + 1) (0) (S) _ _ _ (Nat.zero_le _) (fun m hm => by rw [he m (by omega)]; unfold ff_cn; split <;> rfl) (Nat.lt_succ_self _) hP hD hS (lv_sub hl [1, 2, 3, 0] rfl)
      · have c5 := mt (nI_leI (by omega) (by omega)).mpr c5
        refine lv_aload_n hx hb dX4_countByLength_8 rfl (lv_at hl 0 rfl) ?_
        refine gf_X4_15 hx hb hg hown hK hP 0 rfl rfl dX4_countByLength_9 ?_
        refine lv_iload_n hx hb dX4_countByLength_12 rfl (lv_at hl 3 rfl) ?_
        refine lv_iconst (v := nI 0) hx hb dX4_countByLength_13 (by decide) ?_
        refine ast hx hb hK hP hD hS 2 rfl rfl (by omega) dX4_countByLength_14 (fun H locs hP hD hS => ?_)
        have hP : va_P D vwCl [(a0, .inr (4, [.ref a1, .ref a2, .int z])), (a1, oI cI 2700 g), (a2, oI cI 60 (upd S i (nI 0))), (b0, .inr (0, [.ref b1, .int (nI n)])), (b1, oI cI 60 f)] H := hP
        have hD : va_D A [(a0, .inr (4, [.ref a1, .ref a2, .int z])), (a1, oI cI 2700 g), (a2, oI cI 60 (upd S i (nI 0))), (b0, .inr (0, [.ref b1, .int (nI n)])), (b1, oI cI 60 f)] := hD
        refine lv_iinc (v := nI (i + 1)) (lv' := [(3, .int (nI (i + 1))), (0, .ref a0), (1, .ref b0), (2, .int (nI least))]) hx hb dX4_countByLength_15 hl (k := 3) rfl (nI_1 _) (by decide) rfl (fun ls hl => ?_)
        refine lv_goto (tgt := 2) hx hb dX4_countByLength_18 (by decide) ?_
        exact ih_2 (i + 1) (_) _ _ _ (by omega) (fun t ht => by by_cases h : t = i <;> first | (subst h; exact pk_us) | (rw [pk_un h]; exact he t (by omega))) (by omega) hP hD hS (lv_sub hl [1, 2, 3, 0] rfl)
  exact lp_2 (_ + 1) (0) (sl) _ _ _ (Nat.zero_le _) (fun t h => absurd h (Nat.not_lt_zero _)) (Nat.lt_succ_self _) hP hD hS (lv_sub hl [1, 2, 3, 0] rfl)

set_option maxHeartbeats 4000000 in
set_option maxRecDepth 100000 in
theorem k_X4_give (l : Launch) (D : va_G) (cI : ClassId) (a0 a1 a2 : Nat) (z : Int32) (g sl : Nat → Int32) (cq : Nat → Nat) (hc : ∀ m, m < 60 → sl m = nI (cq m)) : Cv l yX4_giveSlotsLongestFirst cX4_giveSlotsLongestFirst 3 0 0 0 D (tI cI) [.ref a0] [(a0, .inr (4, [.ref a1, .ref a2, .int z])), (a1, oI cI 2700 g), (a2, oI cI 60 sl)] (S := Nat → Int32) (fun u => ∀ m, 1 ≤ m → m < 60 → u m = nI (ff_G cq m)) (fun u => [(a0, .inr (4, [.ref a1, .ref a2, .int (nI (ff_G cq 0))])), (a1, oI cI 2700 g), (a2, oI cI 60 u)]) := by
  refine Cv.of (own := RX4) (lv := [(0, .ref a0)]) (by decide +kernel) rfl (Nat.le_of_ble_eq_true rfl) rfl ?_
  intro p e s m args below meth c Q A cx hin hK hP hD hA hret ls hl
  obtain ⟨hx, hb, hml, hown, hg⟩ := id cx
  have hS : va_S A s.heap s.heap [] := va_S.rf
  refine lv_aload_n hx hb dX4_giveSlotsLongestFirst_0 rfl (lv_at hl 0 rfl) ?_
  refine lv_iconst (v := nI 0) hx hb dX4_giveSlotsLongestFirst_1 (by decide) ?_
  refine pf_X4_38 hx hb hg hown hK hP hD hS 0 rfl (Nat.le_of_ble_eq_true rfl) dX4_giveSlotsLongestFirst_2 (fun H locs hP hD hS => ?_)
  have hP : va_P D vwCl [(a0, .inr (4, [.ref a1, .ref a2, .int (nI 0)])), (a1, oI cI 2700 g), (a2, oI cI 60 sl)] H := hP
  have hD : va_D A [(a0, .inr (4, [.ref a1, .ref a2, .int (nI 0)])), (a1, oI cI 2700 g), (a2, oI cI 60 sl)] := hD
  refine lv_bipush (v := nI 59) hx hb dX4_giveSlotsLongestFirst_5 (by decide) ?_
  refine lv_istore_n (lv' := [(1, .int (nI 59)), (0, .ref a0)]) hx hb dX4_giveSlotsLongestFirst_7 rfl hl (by decide) rfl (fun ls hl => ?_)
  have lp_8 : ∀ (k : Nat) (q : Nat) (S : Nat → Int32) (H : Heap) (locs : List Loc) (ls : Array Slot), (q ≤ 59) → (∀ m, m ≤ q → S m = nI (cq m)) → (∀ m, q < m → m < 60 → S m = nI (ff_G cq m)) → (q < k) → va_P D vwCl [(a0, .inr (4, [.ref a1, .ref a2, .int (nI (ff_G cq q))])), (a1, oI cI 2700 g), (a2, oI cI 60 S)] H → va_D A [(a0, .inr (4, [.ref a1, .ref a2, .int (nI (ff_G cq q))])), (a1, oI cI 2700 g), (a2, oI cI 60 S)] → va_S A s.heap H locs → lv_has ls 3 [(0, .ref a0), (1, .int (nI q))] → W p l e (rr 0 0 0) s m args below meth c H locs 0 0 Q (F0 m 8 ls []) := by
    intro k
    induction k with
    | zero =>
      intro q S H locs ls hq h1 h2 hk
      exact absurd hk (Nat.not_lt_zero _)
    | succ k ih_8 =>
      intro q S H locs ls hq h1 h2 hk hP hD hS hl
      refine lv_iload_n hx hb dX4_giveSlotsLongestFirst_8 rfl (lv_at hl 1 rfl) ?_
      refine lv_if_le (tgt := 45) hx hb dX4_giveSlotsLongestFirst_9 (by decide) (fun c9 => ?_) (fun c9 => ?_)
      · have c9 := (nz_le (by omega)).mp c9
        obtain rfl : q = 0 := by omega
        exact hret _ _ 45 _ (_) (fun m h3 h4 => h2 m (by omega) h4) hP hD hS dX4_giveSlotsLongestFirst_45
      · have c9 := mt (nz_le (by omega)).mpr c9
        refine lv_aload_n hx hb dX4_giveSlotsLongestFirst_12 rfl (lv_at hl 0 rfl) ?_
        refine gf_X4_15 hx hb hg hown hK hP 0 rfl rfl dX4_giveSlotsLongestFirst_13 ?_
        refine lv_iload_n hx hb dX4_giveSlotsLongestFirst_16 rfl (lv_at hl 1 rfl) ?_
        refine ald hx hb hK hP 2 rfl rfl (by omega) dX4_giveSlotsLongestFirst_17 ?_
        refine lv_asi (y := nI (cq q)) (h1 q (Nat.le_refl _)) ?_
        refine lv_istore_n (lv' := [(2, .int (nI (cq q))), (0, .ref a0), (1, .int (nI q))]) hx hb dX4_giveSlotsLongestFirst_18 rfl hl (by decide) rfl (fun ls hl => ?_)
        refine lv_aload_n hx hb dX4_giveSlotsLongestFirst_19 rfl (lv_at hl 1 rfl) ?_
        refine gf_X4_15 hx hb hg hown hK hP 0 rfl rfl dX4_giveSlotsLongestFirst_20 ?_
        refine lv_iload_n hx hb dX4_giveSlotsLongestFirst_23 rfl (lv_at hl 2 rfl) ?_
        refine lv_aload_n hx hb dX4_giveSlotsLongestFirst_24 rfl (lv_at hl 1 rfl) ?_
        refine gf_X4_38 hx hb hg hown hK hP 0 rfl rfl dX4_giveSlotsLongestFirst_25 ?_
        refine ast hx hb hK hP hD hS 2 rfl rfl (by omega) dX4_giveSlotsLongestFirst_28 (fun H locs hP hD hS => ?_)
        have hP : va_P D vwCl [(a0, .inr (4, [.ref a1, .ref a2, .int (nI (ff_G cq q))])), (a1, oI cI 2700 g), (a2, oI cI 60 (upd S q (nI (ff_G cq q))))] H := hP
        have hD : va_D A [(a0, .inr (4, [.ref a1, .ref a2, .int (nI (ff_G cq q))])), (a1, oI cI 2700 g), (a2, oI cI 60 (upd S q (nI (ff_G cq q))))] := hD
        refine lv_aload_n hx hb dX4_giveSlotsLongestFirst_29 rfl (lv_at hl 1 rfl) ?_
        refine lv_dup hx hb dX4_giveSlotsLongestFirst_30 rfl ?_
        refine gf_X4_38 hx hb hg hown hK hP 0 rfl rfl dX4_giveSlotsLongestFirst_31 ?_
        refine lv_iload_n hx hb dX4_giveSlotsLongestFirst_34 rfl (lv_at hl 0 rfl) ?_
        refine lv_iadd hx hb dX4_giveSlotsLongestFirst_35 ?_
        refine lv_asi (nI_add _ _) ?_
        refine pf_X4_38 hx hb hg hown hK hP hD hS 0 rfl (Nat.le_of_ble_eq_true rfl) dX4_giveSlotsLongestFirst_36 (fun H locs hP hD hS => ?_)
        have hP : va_P D vwCl [(a0, .inr (4, [.ref a1, .ref a2, .int (nI (ff_G cq q + (cq q)))])), (a1, oI cI 2700 g), (a2, oI cI 60 (upd S q (nI (ff_G cq q))))] H := hP
        have hD : va_D A [(a0, .inr (4, [.ref a1, .ref a2, .int (nI (ff_G cq q + (cq q)))])), (a1, oI cI 2700 g), (a2, oI cI 60 (upd S q (nI (ff_G cq q))))] := hD
        refine lv_iinc (v := nI (q - 1)) (lv' := [(1, .int (nI (q - 1))), (2, .int (nI (cq q))), (0, .ref a0)]) hx hb dX4_giveSlotsLongestFirst_39 hl (k := 2) rfl (sb_m1 (by omega)) (by decide) rfl (fun ls hl => ?_)
        refine lv_goto (tgt := 8) hx hb dX4_giveSlotsLongestFirst_42 (by decide) ?_
        rw [show ff_G cq q + cq q = ff_G cq (q - 1) from (ff_G_s (by omega) (by omega)).symm] at hP hD
        exact ih_8 (q - 1) (_) _ _ _ (by omega) (fun m hm => by rw [pk_un (by omega)]; exact h1 m (by omega)) (fun m h3 h4 => by by_cases h : m = q <;> first | (subst h; exact pk_us) | (rw [pk_un h]; exact h2 m (by omega) h4)) (by omega) hP hD hS (lv_sub hl [2, 0] rfl)
  exact lp_8 (_ + 1) (59) (sl) _ _ _ (Nat.le_refl _) (fun m hm => hc m (by omega)) (fun m h1 h2 => absurd h1 (by omega)) (Nat.lt_succ_self _) hP hD hS (lv_sub hl [1, 0] rfl)

set_option maxHeartbeats 4000000 in
set_option maxRecDepth 100000 in
theorem k_X4_putInSlots (l : Launch) (D : va_G) (cI : ClassId) (a0 a1 a2 : Nat) (z : Int32) (g sl : Nat → Int32) (b0 b1 n : Nat) (f : Nat → Int32) (least : Nat) (h1 : 1 ≤ least) (h2 : least ≤ 60) (hn : n ≤ 60) (hsl : ∀ m, 1 ≤ m → m < 60 → sl m = nI ((ff_G (ff_cn (ff_rl f n) least (ff_ar n n))) m)) : Cv l yX4_putInSlots cX4_putInSlots 6 2 0 0 D (tI cI) [.ref a0, .ref b0, .int (nI least)] [(a0, .inr (4, [.ref a1, .ref a2, .int z])), (a1, oI cI 2700 g), (a2, oI cI 60 sl), (b0, .inr (0, [.ref b1, .int (nI n)])), (b1, oI cI 60 f)] (S := (Nat → Int32) × (Nat → Int32)) (fun u => ff_rowsP (ff_rl f n) least (ff_G (ff_cn (ff_rl f n) least (ff_ar n n))) (ff_ar n n) u.1) (fun u => [(a0, .inr (4, [.ref a1, .ref a2, .int z])), (a1, oI cI 2700 (u.1)), (a2, oI cI 60 (u.2)), (b0, .inr (0, [.ref b1, .int (nI n)])), (b1, oI cI 60 f)]) := by
  refine Cv.of (own := RX4) (lv := [(0, .ref a0), (1, .ref b0), (2, .int (nI least))]) (by decide +kernel) rfl (Nat.le_of_ble_eq_true rfl) rfl ?_
  intro p e s m args below meth c Q A cx hin hK hP hD hA hret ls hl
  obtain ⟨hx, hb, hml, hown, hg⟩ := id cx
  have hS : va_S A s.heap s.heap [] := va_S.rf
  refine lv_iconst (v := nI 0) hx hb dX4_putInSlots_0 (by decide) ?_
  refine lv_istore_n (lv' := [(3, .int (nI 0)), (0, .ref a0), (1, .ref b0), (2, .int (nI least))]) hx hb dX4_putInSlots_1 rfl hl (by decide) rfl (fun ls hl => ?_)
  have lp_2 : ∀ (k : Nat) (i : Nat) (g9 : Nat → Int32) (S : Nat → Int32) (H : Heap) (locs : List Loc) (ls : Array Slot), (i ≤ n) → (∀ m, least ≤ m → m < 60 → S m = nI ((ff_G (ff_cn (ff_rl f n) least (ff_ar n n))) m + (ff_F (ff_rl f n) m (ff_ar n i)).length)) → (ff_rowsP (ff_rl f n) least (ff_G (ff_cn (ff_rl f n) least (ff_ar n n))) (ff_ar n i) g9) → (n - i < k) → va_P D vwCl [(a0, .inr (4, [.ref a1, .ref a2, .int z])), (a1, oI cI 2700 g9), (a2, oI cI 60 S), (b0, .inr (0, [.ref b1, .int (nI n)])), (b1, oI cI 60 f)] H → va_D A [(a0, .inr (4, [.ref a1, .ref a2, .int z])), (a1, oI cI 2700 g9), (a2, oI cI 60 S), (b0, .inr (0, [.ref b1, .int (nI n)])), (b1, oI cI 60 f)] → va_S A s.heap H locs → lv_has ls 6 [(0, .ref a0), (1, .ref b0), (2, .int (nI least)), (3, .int (nI i))] → W p l e (rr 2 0 0) s m args below meth c H locs 0 0 Q (F0 m 2 ls []) := by
    intro k
    induction k with
    | zero =>
      intro i g9 S H locs ls hi hs hr hk
      exact absurd hk (Nat.not_lt_zero _)
    | succ k ih_2 =>
      intro i g9 S H locs ls hi hs hr hk hP hD hS hl
      refine lv_iload_n hx hb dX4_putInSlots_2 rfl (lv_at hl 3 rfl) ?_
      refine lv_aload_n hx hb dX4_putInSlots_3 rfl (lv_at hl 1 rfl) ?_
      refine gf_X4_28 hx hb hg hown hK hP 3 rfl rfl dX4_putInSlots_4 ?_
      refine lv_icmp_ge (tgt := 78) hx hb dX4_putInSlots_7 (by decide) (fun c7 => ?_) (fun c7 => ?_)
      · have c7 := (nI_leI (by omega) (by omega)).mp c7
        obtain rfl : i = n := by omega
        exact hret _ _ 78 _ ((_, _)) (hr) hP hD hS dX4_putInSlots_78
      · have c7 := mt (nI_leI (by omega) (by omega)).mpr c7
        refine lv_iload_n hx hb dX4_putInSlots_10 rfl (lv_at hl 3 rfl) ?_
        refine lv_iconst (v := nI 1) hx hb dX4_putInSlots_11 (by decide) ?_
        refine lv_iadd hx hb dX4_putInSlots_12 ?_
        refine lv_asi (nI_add _ _) ?_
        refine lv_istore (lv' := [(4, .int (nI (i + 1))), (0, .ref a0), (1, .ref b0), (2, .int (nI least)), (3, .int (nI i))]) hx hb dX4_putInSlots_13 hl (by decide) rfl (fun ls hl => ?_)
        have lp_15 : ∀ (k : Nat) (j : Nat) (g9 : Nat → Int32) (S : Nat → Int32) (H : Heap) (locs : List Loc) (ls : Array Slot), (i + 1 ≤ j) → (j ≤ n) → (∀ m, least ≤ m → m < 60 → S m = nI ((ff_G (ff_cn (ff_rl f n) least (ff_ar n n))) m + (ff_F (ff_rl f n) m (ff_pp n i j)).length)) → (ff_rowsP (ff_rl f n) least (ff_G (ff_cn (ff_rl f n) least (ff_ar n n))) (ff_pp n i j) g9) → (n - j < k) → va_P D vwCl [(a0, .inr (4, [.ref a1, .ref a2, .int z])), (a1, oI cI 2700 g9), (a2, oI cI 60 S), (b0, .inr (0, [.ref b1, .int (nI n)])), (b1, oI cI 60 f)] H → va_D A [(a0, .inr (4, [.ref a1, .ref a2, .int z])), (a1, oI cI 2700 g9), (a2, oI cI 60 S), (b0, .inr (0, [.ref b1, .int (nI n)])), (b1, oI cI 60 f)] → va_S A s.heap H locs → lv_has ls 6 [(0, .ref a0), (1, .ref b0), (2, .int (nI least)), (3, .int (nI i)), (4, .int (nI j))] → W p l e (rr 2 0 0) s m args below meth c H locs 0 0 Q (F0 m 15 ls []) := by
          intro k
          induction k with
          | zero =>
            intro j g9 S H locs ls hj1 hj hs hr hk
            exact absurd hk (Nat.not_lt_zero _)
          | succ k ih_15 =>
            intro j g9 S H locs ls hj1 hj hs hr hk hP hD hS hl
            refine lv_iload hx hb dX4_putInSlots_15 (lv_at hl 4 rfl) ?_
            refine lv_aload_n hx hb dX4_putInSlots_17 rfl (lv_at hl 1 rfl) ?_
            refine gf_X4_28 hx hb hg hown hK hP 3 rfl rfl dX4_putInSlots_18 ?_
            refine lv_icmp_ge (tgt := 72) hx hb dX4_putInSlots_21 (by decide) (fun c21 => ?_) (fun c21 => ?_)
            · have c21 := (nI_leI (by omega) (by omega)).mp c21
              refine lv_iinc (v := nI (i + 1)) (lv' := [(3, .int (nI (i + 1))), (0, .ref a0), (1, .ref b0), (2, .int (nI least)), (4, .int (nI j))]) hx hb dX4_putInSlots_72 hl (k := 3) rfl (nI_1 _) (by decide) rfl (fun ls hl => ?_)
              refine lv_goto (tgt := 2) hx hb dX4_putInSlots_75 (by decide) ?_
              exact ih_2 (i + 1) (_) (_) _ _ _ (by omega) (fun m h3 h4 => by rw [hs m h3 h4, show j = n by omega, ff_pp_n]) (by rw [show j = n by omega, ff_pp_n] at hr; exact hr) (by omega) hP hD hS (lv_sub hl [1, 2, 3, 0] rfl)
            · have c21 := mt (nI_leI (by omega) (by omega)).mpr c21
              refine lv_aload_n hx hb dX4_putInSlots_24 rfl (lv_at hl 1 rfl) ?_
              refine lv_iload_n hx hb dX4_putInSlots_25 rfl (lv_at hl 3 rfl) ?_
              refine lv_iload hx hb dX4_putInSlots_26 (lv_at hl 4 rfl) ?_
              refine Cp.callV (As := [.int (nI i), .int (nI j)]) (rest := []) (cv_X4_34 hg ⟨Nat.le_of_ble_eq_true rfl, Nat.le_of_ble_eq_true rfl⟩) (k_X0_repeatLength l D cI b0 b1 n f i j (by omega) (by omega) hn) cx hK hP [3, 4] rfl (rq := 0) rfl rfl rfl hS rfl hl.1 rfl (Nat.le_of_ble_eq_true rfl) dX4_putInSlots_28 ⟨Nat.zero_le _, Nat.zero_le _⟩ (fun H locs hP hS => ?_)
              have hrl := ff_rl_le f n i j
              refine lv_istore (lv' := [(5, .int (nI (ff_rl f n i j))), (0, .ref a0), (1, .ref b0), (2, .int (nI least)), (3, .int (nI i)), (4, .int (nI j))]) hx hb dX4_putInSlots_31 hl (by decide) rfl (fun ls hl => ?_)
              refine lv_iload hx hb dX4_putInSlots_33 (lv_at hl 0 rfl) ?_
              refine lv_iload_n hx hb dX4_putInSlots_35 rfl (lv_at hl 3 rfl) ?_
              refine lv_icmp_lt (tgt := 66) hx hb dX4_putInSlots_36 (by decide) (fun c36 => ?_) (fun c36 => ?_)
              · have c36 := (nI_ltI (by omega) (by omega)).mp c36
                refine lv_iinc (v := nI (j + 1)) (lv' := [(4, .int (nI (j + 1))), (5, .int (nI (ff_rl f n i j))), (0, .ref a0), (1, .ref b0), (2, .int (nI least)), (3, .int (nI i))]) hx hb dX4_putInSlots_66 hl (k := 5) rfl (nI_1 _) (by decide) rfl (fun ls hl => ?_)
                refine lv_goto (tgt := 15) hx hb dX4_putInSlots_69 (by decide) ?_
                exact ih_15 (j + 1) (_) (_) _ _ _ (by omega) (by omega) (by first | exact ff_P_t (by omega) (by omega) hs | exact ff_P_f (by omega) hs c36) (by first | (rw [ff_pp_s (by omega)]; exact ff_rowsP_t hall hr c36 (by omega) _ rfl) | (rw [ff_pp_s (by omega)]; exact ff_rowsP_f hr (by omega))) (by omega) hP hD hS (lv_sub hl [2, 3, 4, 5, 0] rfl)
              · have c36 := mt (nI_ltI (by omega) (by omega)).mpr c36
                have c36 : least ≤ ff_rl f n i j := by omega
                obtain ⟨rest9, hall⟩ := ff_pp_pre (n := n) (i := i) (j := j + 1) (by omega) (by omega)
                rw [ff_pp_s (by omega)] at hall
                have h900 := ff_tot_900 f least hn
                have hlt9 := ff_place_lt (r := ff_rl f n) hall c36 (by omega)
                refine lv_aload_n hx hb dX4_putInSlots_39 rfl (lv_at hl 1 rfl) ?_
                refine lv_aload_n hx hb dX4_putInSlots_40 rfl (lv_at hl 1 rfl) ?_
                refine gf_X4_15 hx hb hg hown hK hP 0 rfl rfl dX4_putInSlots_41 ?_
                refine lv_iload hx hb dX4_putInSlots_44 (lv_at hl 0 rfl) ?_
                refine ald hx hb hK hP 2 rfl rfl (by omega) dX4_putInSlots_46 ?_
                refine lv_asi (y := nI ((ff_G (ff_cn (ff_rl f n) least (ff_ar n n))) (ff_rl f n i j) + (ff_F (ff_rl f n) (ff_rl f n i j) (ff_pp n i j)).length)) (hs _ c36 (by omega)) ?_
                refine lv_iload_n hx hb dX4_putInSlots_47 rfl (lv_at hl 4 rfl) ?_
                refine lv_iload hx hb dX4_putInSlots_48 (lv_at hl 5 rfl) ?_
                refine lv_iload hx hb dX4_putInSlots_50 (lv_at hl 0 rfl) ?_
                refine Cv.callV (As := [.int (nI ((ff_G (ff_cn (ff_rl f n) least (ff_ar n n))) (ff_rl f n i j) + (ff_F (ff_rl f n) (ff_rl f n i j) (ff_pp n i j)).length)), .int (nI i), .int (nI j), .int (nI (ff_rl f n i j))]) (rest := []) (wr := [(b0, .inr (0, [.ref b1, .int (nI n)])), (b1, oI cI 60 f)]) (wn := (fun u52 => [(a0, .inr (4, [.ref a1, .ref a2, .int z])), (a1, oI cI 2700 (upd (upd (upd g9 (3 * ((ff_G (ff_cn (ff_rl f n) least (ff_ar n n))) (ff_rl f n i j) + (ff_F (ff_rl f n) (ff_rl f n i j) (ff_pp n i j)).length)) (nI i)) (3 * ((ff_G (ff_cn (ff_rl f n) least (ff_ar n n))) (ff_rl f n i j) + (ff_F (ff_rl f n) (ff_rl f n i j) (ff_pp n i j)).length) + 1) (nI j)) (3 * ((ff_G (ff_cn (ff_rl f n) least (ff_ar n n))) (ff_rl f n i j) + (ff_F (ff_rl f n) (ff_rl f n i j) (ff_pp n i j)).length) + 2) (nI (ff_rl f n i j)))), (a2, oI cI 60 S), (b0, .inr (0, [.ref b1, .int (nI n)])), (b1, oI cI 60 f)])) (cv_X4_39 hg ⟨Nat.le_of_ble_eq_true rfl, Nat.le_of_ble_eq_true rfl⟩) (k_X4_put l D cI a0 a1 a2 z g9 S ((ff_G (ff_cn (ff_rl f n) least (ff_ar n n))) (ff_rl f n i j) + (ff_F (ff_rl f n) (ff_rl f n i j) (ff_pp n i j)).length) (nI i) (nI j) (nI (ff_rl f n i j)) (by omega)) cx hK hP hD hA [0, 1, 2] [3, 4] [2, 3, 4, 0, 1] rfl rfl (by decide) (fun _ => rfl) (rq := 0) rfl rfl rfl hS rfl hl.1 rfl (Nat.le_of_ble_eq_true rfl) dX4_putInSlots_52 ⟨Nat.le_refl _, Nat.le_refl _⟩ (fun H locs u52 p52 hP hD hS => ?_)
                refine lv_aload_n hx hb dX4_putInSlots_55 rfl (lv_at hl 1 rfl) ?_
                refine gf_X4_15 hx hb hg hown hK hP 0 rfl rfl dX4_putInSlots_56 ?_
                refine lv_iload hx hb dX4_putInSlots_59 (lv_at hl 0 rfl) ?_
                refine lv_dup2_11 hx hb dX4_putInSlots_61 rfl rfl ?_
                refine ald hx hb hK hP 2 rfl rfl (by omega) dX4_putInSlots_62 ?_
                refine lv_asi (y := nI ((ff_G (ff_cn (ff_rl f n) least (ff_ar n n))) (ff_rl f n i j) + (ff_F (ff_rl f n) (ff_rl f n i j) (ff_pp n i j)).length)) (hs _ c36 (by omega)) ?_
                refine lv_iconst (v := nI 1) hx hb dX4_putInSlots_63 (by decide) ?_
                refine lv_iadd hx hb dX4_putInSlots_64 ?_
                refine lv_asi (nI_add _ _) ?_
                refine ast hx hb hK hP hD hS 2 rfl rfl (by omega) dX4_putInSlots_65 (fun H locs hP hD hS => ?_)
                have hP : va_P D vwCl [(a0, .inr (4, [.ref a1, .ref a2, .int z])), (a1, oI cI 2700 (upd (upd (upd g9 (3 * ((ff_G (ff_cn (ff_rl f n) least (ff_ar n n))) (ff_rl f n i j) + (ff_F (ff_rl f n) (ff_rl f n i j) (ff_pp n i j)).length)) (nI i)) (3 * ((ff_G (ff_cn (ff_rl f n) least (ff_ar n n))) (ff_rl f n i j) + (ff_F (ff_rl f n) (ff_rl f n i j) (ff_pp n i j)).length) + 1) (nI j)) (3 * ((ff_G (ff_cn (ff_rl f n) least (ff_ar n n))) (ff_rl f n i j) + (ff_F (ff_rl f n) (ff_rl f n i j) (ff_pp n i j)).length) + 2) (nI (ff_rl f n i j)))), (a2, oI cI 60 (upd S (ff_rl f n i j) (nI ((ff_G (ff_cn (ff_rl f n) least (ff_ar n n))) (ff_rl f n i j) + (ff_F (ff_rl f n) (ff_rl f n i j) (ff_pp n i j)).length + 1)))), (b0, .inr (0, [.ref b1, .int (nI n)])), (b1, oI cI 60 f)] H := hP
                have hD : va_D A [(a0, .inr (4, [.ref a1, .ref a2, .int z])), (a1, oI cI 2700 (upd (upd (upd g9 (3 * ((ff_G (ff_cn (ff_rl f n) least (ff_ar n n))) (ff_rl f n i j) + (ff_F (ff_rl f n) (ff_rl f n i j) (ff_pp n i j)).length)) (nI i)) (3 * ((ff_G (ff_cn (ff_rl f n) least (ff_ar n n))) (ff_rl f n i j) + (ff_F (ff_rl f n) (ff_rl f n i j) (ff_pp n i j)).length) + 1) (nI j)) (3 * ((ff_G (ff_cn (ff_rl f n) least (ff_ar n n))) (ff_rl f n i j) + (ff_F (ff_rl f n) (ff_rl f n i j) (ff_pp n i j)).length) + 2) (nI (ff_rl f n i j)))), (a2, oI cI 60 (upd S (ff_rl f n i j) (nI ((ff_G (ff_cn (ff_rl f n) least (ff_ar n n))) (ff_rl f n i j) + (ff_F (ff_rl f n) (ff_rl f n i j) (ff_pp n i j)).length + 1)))), (b0, .inr (0, [.ref b1, .int (nI n)])), (b1, oI cI 60 f)] := hD
                refine lv_iinc (v := nI (j + 1)) (lv' := [(4, .int (nI (j + 1))), (5, .int (nI (ff_rl f n i j))), (0, .ref a0), (1, .ref b0), (2, .int (nI least)), (3, .int (nI i))]) hx hb dX4_putInSlots_66 hl (k := 5) rfl (nI_1 _) (by decide) rfl (fun ls hl => ?_)
                refine lv_goto (tgt := 15) hx hb dX4_putInSlots_69 (by decide) ?_
                exact ih_15 (j + 1) (_) (_) _ _ _ (by omega) (by omega) (by first | exact ff_P_t (by omega) (by omega) hs | exact ff_P_f (by omega) hs c36) (by first | (rw [ff_pp_s (by omega)]; exact ff_rowsP_t hall hr c36 (by omega) _ rfl) | (rw [ff_pp_s (by omega)]; exact ff_rowsP_f hr (by omega))) (by omega) hP hD hS (lv_sub hl [2, 3, 4, 5, 0] rfl)
        exact lp_15 (_ + 1) (i + 1) (g9) (S) _ _ _ (Nat.le_refl _) (by omega) (fun m h3 h4 => by rw [hs m h3 h4, ff_pp_0]) (by rw [ff_pp_0]; exact hr) (Nat.lt_succ_self _) hP hD hS (lv_sub hl [1, 2, 3, 4, 0] rfl)
  exact lp_2 (_ + 1) (0) (g) (sl) _ _ _ (Nat.zero_le _) (fun m h3 h4 => hsl m (by omega) h4) (fun m h3 h4 t q hq => by simp [ff_ar, ff_F] at hq) (Nat.lt_succ_self _) hP hD hS (lv_sub hl [1, 2, 3, 0] rfl)

set_option maxHeartbeats 4000000 in
set_option maxRecDepth 100000 in
theorem k_X4_gather (l : Launch) (D : va_G) (cI : ClassId) (a0 a1 a2 : Nat) (z : Int32) (g sl : Nat → Int32) (b0 b1 n : Nat) (f : Nat → Int32) (least : Nat) (h1 : 1 ≤ least) (h2 : least ≤ 60) (hn : n ≤ 60) : Cv l yX4_gather cX4_gather 3 3 0 0 D (tI cI) [.ref a0, .ref b0, .int (nI least)] [(a0, .inr (4, [.ref a1, .ref a2, .int z])), (a1, oI cI 2700 g), (a2, oI cI 60 sl), (b0, .inr (0, [.ref b1, .int (nI n)])), (b1, oI cI 60 f)] (S := (Nat → Int32) × (Nat → Int32)) (fun u => ff_rowsP (ff_rl f n) least (ff_G (ff_cn (ff_rl f n) least (ff_ar n n))) (ff_ar n n) u.1) (fun u => [(a0, .inr (4, [.ref a1, .ref a2, .int (nI ((ff_G (ff_cn (ff_rl f n) least (ff_ar n n))) 0))])), (a1, oI cI 2700 (u.1)), (a2, oI cI 60 (u.2)), (b0, .inr (0, [.ref b1, .int (nI n)])), (b1, oI cI 60 f)]) := by
  refine Cv.of (own := RX4) (lv := [(0, .ref a0), (1, .ref b0), (2, .int (nI least))]) (by decide +kernel) rfl (Nat.le_of_ble_eq_true rfl) rfl ?_
  intro p e s m args below meth c Q A cx hin hK hP hD hA hret ls hl
  obtain ⟨hx, hb, hml, hown, hg⟩ := id cx
  have hS : va_S A s.heap s.heap [] := va_S.rf
  refine lv_aload_n hx hb dX4_gather_0 rfl (lv_at hl 0 rfl) ?_
  refine lv_aload_n hx hb dX4_gather_1 rfl (lv_at hl 1 rfl) ?_
  refine lv_iload_n hx hb dX4_gather_2 rfl (lv_at hl 2 rfl) ?_
  refine Cv.callV (As := [.ref b0, .int (nI least)]) (rest := []) (wr := []) (wn := (fun ua => [(a0, .inr (4, [.ref a1, .ref a2, .int z])), (a1, oI cI 2700 g), (a2, oI cI 60 ua), (b0, .inr (0, [.ref b1, .int (nI n)])), (b1, oI cI 60 f)])) (cv_X4_18 hg ⟨Nat.le_of_ble_eq_true rfl, Nat.le_of_ble_eq_true rfl⟩) (k_X4_countByLength l D cI a0 a1 a2 z g sl b0 b1 n f least h1 h2 hn) cx hK hP hD hA [0, 1, 2, 3, 4] [] [0, 1, 2, 3, 4] rfl rfl (by decide) (fun _ => rfl) (rq := 0) rfl rfl rfl hS rfl hl.1 rfl (Nat.le_of_ble_eq_true rfl) dX4_gather_3 ⟨Nat.le_refl _, Nat.le_refl _⟩ (fun H locs ua p3 hP hD hS => ?_)
  refine lv_aload_n hx hb dX4_gather_6 rfl (lv_at hl 0 rfl) ?_
  refine Cv.callV (As := []) (rest := []) (wr := [(b0, .inr (0, [.ref b1, .int (nI n)])), (b1, oI cI 60 f)]) (wn := (fun ub => [(a0, .inr (4, [.ref a1, .ref a2, .int (nI ((ff_G (ff_cn (ff_rl f n) least (ff_ar n n))) 0))])), (a1, oI cI 2700 g), (a2, oI cI 60 ub), (b0, .inr (0, [.ref b1, .int (nI n)])), (b1, oI cI 60 f)])) (cv_X4_22 hg ⟨Nat.le_of_ble_eq_true rfl, Nat.le_of_ble_eq_true rfl⟩) (k_X4_give l D cI a0 a1 a2 z g ua _ p3) cx hK hP hD hA [0, 1, 2] [3, 4] [2, 3, 4, 0, 1] rfl rfl (by decide) (fun _ => rfl) (rq := 0) rfl rfl rfl hS rfl hl.1 rfl (Nat.le_of_ble_eq_true rfl) dX4_gather_7 ⟨Nat.le_refl _, Nat.le_refl _⟩ (fun H locs ub p7 hP hD hS => ?_)
  refine lv_aload_n hx hb dX4_gather_10 rfl (lv_at hl 0 rfl) ?_
  refine lv_aload_n hx hb dX4_gather_11 rfl (lv_at hl 1 rfl) ?_
  refine lv_iload_n hx hb dX4_gather_12 rfl (lv_at hl 2 rfl) ?_
  refine Cv.callV (As := [.ref b0, .int (nI least)]) (rest := []) (wr := []) (wn := (fun uc => [(a0, .inr (4, [.ref a1, .ref a2, .int (nI ((ff_G (ff_cn (ff_rl f n) least (ff_ar n n))) 0))])), (a1, oI cI 2700 (uc.1)), (a2, oI cI 60 (uc.2)), (b0, .inr (0, [.ref b1, .int (nI n)])), (b1, oI cI 60 f)])) (cv_X4_25 hg ⟨Nat.le_of_ble_eq_true rfl, Nat.le_of_ble_eq_true rfl⟩) (k_X4_putInSlots l D cI a0 a1 a2 (nI ((ff_G (ff_cn (ff_rl f n) least (ff_ar n n))) 0)) g ub b0 b1 n f least h1 h2 hn p7) cx hK hP hD hA [0, 1, 2, 3, 4] [] [0, 1, 2, 3, 4] rfl rfl (by decide) (fun _ => rfl) (rq := 0) rfl rfl rfl hS rfl hl.1 rfl (Nat.le_of_ble_eq_true rfl) dX4_gather_13 ⟨Nat.le_refl _, Nat.le_refl _⟩ (fun H locs uc p13 hP hD hS => ?_)
  exact hret _ _ 16 _ (uc) (p13) hP hD hS dX4_gather_16
end
section
/-! sections of least cost -/
def ff_mx (P : Nat → Int32) (s : Nat) : Nat → Int32
  | 0 => P s
  | t + 1 => if ff_mx P s t < P (s + t) then P (s + t) else ff_mx P s t
def ff_mn (P : Nat → Int32) (s : Nat) : Nat → Int32
  | 0 => P s
  | t + 1 => if P (s + t) < ff_mn P s t then P (s + t) else ff_mn P s t
def ff_C (base bw : Int32) (P lc : Nat → Int32) (s t : Nat) : Int32 := base + bw * (ff_mx P s t - ff_mn P s t) + lc (s + t)
def ff_W (fw : Nat → Int32) (s t : Nat) : Int32 := nI 1 + fw (s + t)
/-- the best first end among the first t -/
def ff_bs (C F : Nat → Int32) (s : Nat) : Nat → Int32 × Int32 × Nat
  | 0 => (0, 0, 0)
  | t + 1 => if t = 0 ∨ (C (t + 1) < (ff_bs C F s t).1 ∨ (C (t + 1) = (ff_bs C F s t).1 ∧ F (t + 1) < (ff_bs C F s t).2.1)) then (C (t + 1), F (t + 1), s + t + 1) else ff_bs C F s t
theorem ff_bs_t {C F : Nat → Int32} {s t : Nat} (h : t = 0 ∨ (C (t + 1) < (ff_bs C F s t).1 ∨ (C (t + 1) = (ff_bs C F s t).1 ∧ F (t + 1) < (ff_bs C F s t).2.1))) : ff_bs C F s (t + 1) = (C (t + 1), F (t + 1), s + t + 1) := if_pos h
theorem ff_bs_f {C F : Nat → Int32} {s t : Nat} (h : ¬ (t = 0 ∨ (C (t + 1) < (ff_bs C F s t).1 ∨ (C (t + 1) = (ff_bs C F s t).1 ∧ F (t + 1) < (ff_bs C F s t).2.1)))) : ff_bs C F s (t + 1) = ff_bs C F s t := if_neg h
theorem ff_bs_congr {C F C' F' : Nat → Int32} {s : Nat} : ∀ {t : Nat}, (∀ x, 1 ≤ x → x ≤ t → C x = C' x ∧ F x = F' x) → ff_bs C F s t = ff_bs C' F' s t
  | 0, _ => rfl
  | t + 1, h => by
    have ih := ff_bs_congr (s := s) (t := t) (fun x h1 h2 => h x h1 (by omega))
    obtain ⟨e1, e2⟩ := h (t + 1) (by omega) (by omega)
    unfold ff_bs
    rw [ih, e1, e2]
theorem ff_bs_is {C F : Nat → Int32} {s : Nat} : ∀ {t : Nat}, 1 ≤ t → ∃ x, 1 ≤ x ∧ x ≤ t ∧ ff_bs C F s t = (C x, F x, s + x)
  | 0, h => absurd h (by omega)
  | t + 1, _ => by
    unfold ff_bs
    split
    · exact ⟨t + 1, by omega, by omega, rfl⟩
    · rename_i h
      obtain ⟨x, h1, h2, h3⟩ := ff_bs_is (C := C) (F := F) (s := s) (t := t) (by
        apply Decidable.byContradiction
        intro q
        exact h (Or.inl (by omega)))
      exact ⟨x, h1, by omega, h3⟩
def ff_un (E : Nat → Nat) (k x : Nat) : Nat → Nat := fun i => if i = k then x else E i
/-- what is best from each of the last k notes on -/
def ff_D (P : Nat → Int32) (n : Nat) (base bw : Int32) : Nat → (Nat → Int32) × (Nat → Int32) × (Nat → Nat)
  | 0 => (fun _ => 0, fun _ => nI 0, fun _ => 0)
  | k + 1 => (upd (ff_D P n base bw k).1 (n - 1 - k) (ff_bs (ff_C base bw P (ff_D P n base bw k).1 (n - 1 - k)) (ff_W (ff_D P n base bw k).2.1 (n - 1 - k)) (n - 1 - k) (k + 1)).1,
      upd (ff_D P n base bw k).2.1 (n - 1 - k) (ff_bs (ff_C base bw P (ff_D P n base bw k).1 (n - 1 - k)) (ff_W (ff_D P n base bw k).2.1 (n - 1 - k)) (n - 1 - k) (k + 1)).2.1,
      ff_un (ff_D P n base bw k).2.2 (n - 1 - k) (ff_bs (ff_C base bw P (ff_D P n base bw k).1 (n - 1 - k)) (ff_W (ff_D P n base bw k).2.1 (n - 1 - k)) (n - 1 - k) (k + 1)).2.2)
/-- arrays that hold the best of the last k -/
def ff_Dok (P : Nat → Int32) (n : Nat) (base bw : Int32) (k : Nat) (lc fw fe : Nat → Int32) : Prop := ∀ i, n - k ≤ i → i ≤ n → lc i = (ff_D P n base bw k).1 i ∧ fw i = (ff_D P n base bw k).2.1 i ∧ (i < n → fe i = nI ((ff_D P n base bw k).2.2 i))
theorem ff_Dok_s {P : Nat → Int32} {n : Nat} {base bw : Int32} {k : Nat} {lc fw fe lc' fw' fe' : Nat → Int32} (hk : k + 1 ≤ n) (h : ff_Dok P n base bw k lc fw fe)
    (h1 : ∀ x, ¬ x = n - 1 - k → lc' x = lc x ∧ fw' x = fw x ∧ fe' x = fe x)
    (h2 : lc' (n - 1 - k) = (ff_bs (ff_C base bw P lc (n - 1 - k)) (ff_W fw (n - 1 - k)) (n - 1 - k) (k + 1)).1 ∧ fw' (n - 1 - k) = (ff_bs (ff_C base bw P lc (n - 1 - k)) (ff_W fw (n - 1 - k)) (n - 1 - k) (k + 1)).2.1 ∧ fe' (n - 1 - k) = nI (ff_bs (ff_C base bw P lc (n - 1 - k)) (ff_W fw (n - 1 - k)) (n - 1 - k) (k + 1)).2.2) : ff_Dok P n base bw (k + 1) lc' fw' fe' := by
  have e : ff_bs (ff_C base bw P lc (n - 1 - k)) (ff_W fw (n - 1 - k)) (n - 1 - k) (k + 1) = ff_bs (ff_C base bw P (ff_D P n base bw k).1 (n - 1 - k)) (ff_W (ff_D P n base bw k).2.1 (n - 1 - k)) (n - 1 - k) (k + 1) := by
    refine ff_bs_congr (fun x hx1 hx2 => ?_)
    obtain ⟨e1, e2, -⟩ := h (n - 1 - k + x) (by omega) (by omega)
    unfold ff_C ff_W
    rw [e1, e2]
    exact ⟨rfl, rfl⟩
  rw [e] at h2
  intro i hi1 hi2
  by_cases hi : i = n - 1 - k
  · subst hi
    obtain ⟨a, b, c⟩ := h2
    refine ⟨?_, ?_, fun _ => ?_⟩
    · rw [a]; exact pk_us.symm
    · rw [b]; exact pk_us.symm
    · rw [c]; congr 1; exact (if_pos rfl).symm
  · obtain ⟨a, b, c⟩ := h1 i hi
    obtain ⟨a2, b2, c2⟩ := h i (by omega) hi2
    refine ⟨?_, ?_, fun hn => ?_⟩
    · rw [a, a2]; exact (pk_un hi).symm
    · rw [b, b2]; exact (pk_un hi).symm
    · rw [c, c2 hn]; congr 1; exact (if_neg hi).symm
/-- the chain of ends -/
def ff_ch (E : Nat → Nat) : Nat → Nat → Nat
  | 0, s => s
  | k + 1, s => E (ff_ch E k s)
theorem ff_ch_f (E : Nat → Nat) : ∀ k s, ff_ch E k (E s) = ff_ch E (k + 1) s
  | 0, _ => rfl
  | k + 1, s => by
    show E (ff_ch E k (E s)) = E (ff_ch E (k + 1) s)
    rw [ff_ch_f E k s]
/-- each end lies behind, and the number counts them -/
theorem ff_D_e {P : Nat → Int32} {n : Nat} {base bw : Int32} : ∀ {k : Nat}, k ≤ n → ((ff_D P n base bw k).2.1 n = nI 0 ∧ ∀ i, n - k ≤ i → i < n → i < (ff_D P n base bw k).2.2 i ∧ (ff_D P n base bw k).2.2 i ≤ n ∧ (ff_D P n base bw k).2.1 i = nI 1 + (ff_D P n base bw k).2.1 ((ff_D P n base bw k).2.2 i))
  | 0, _ => ⟨rfl, fun i h1 h2 => absurd h1 (by omega)⟩
  | k + 1, hk => by
    obtain ⟨ih0, ih⟩ := ff_D_e (P := P) (n := n) (base := base) (bw := bw) (k := k) (by omega)
    constructor
    · show upd _ _ _ n = _
      rw [pk_un (by omega)]; exact ih0
    · intro i h1 h2
      show i < ff_un _ _ _ i ∧ ff_un _ _ _ i ≤ n ∧ upd _ _ _ i = nI 1 + upd _ _ _ (ff_un _ _ _ i)
      by_cases hi : i = n - 1 - k
      · obtain ⟨x, hx1, hx2, hx3⟩ := ff_bs_is (C := ff_C base bw P (ff_D P n base bw k).1 (n - 1 - k)) (F := ff_W (ff_D P n base bw k).2.1 (n - 1 - k)) (s := n - 1 - k) (t := k + 1) (by omega)
        rw [hx3]
        subst hi
        unfold ff_un
        rw [if_pos rfl, pk_us]
        refine ⟨by show _ < n - 1 - k + x; omega, by show n - 1 - k + x ≤ n; omega, ?_⟩
        show ff_W _ _ x = nI 1 + upd _ _ _ (n - 1 - k + x)
        rw [pk_un (by omega)]
        rfl
      · obtain ⟨a, b, c⟩ := ih i (by omega) h2
        unfold ff_un
        rw [if_neg hi, pk_un hi]
        refine ⟨a, b, ?_⟩
        rw [pk_un (by omega)]
        exact c
theorem ff_chain {E : Nat → Nat} {w : Nat → Int32} {n : Nat} (h0 : w n = nI 0) (h : ∀ i, i < n → i < E i ∧ E i ≤ n ∧ w i = nI 1 + w (E i)) : ∀ d i, i ≤ n → n - i ≤ d → ∃ z, z ≤ n - i ∧ w i = nI z ∧ ff_ch E z i = n ∧ ∀ t, t < z → ff_ch E t i < n
  | 0, i, hi, hd => ⟨0, Nat.zero_le _, by rw [show i = n by omega]; exact h0, by show i = n; omega, fun t ht => absurd ht (Nat.not_lt_zero _)⟩
  | d + 1, i, hi, hd => by
    by_cases hn : i = n
    · exact ⟨0, Nat.zero_le _, by rw [hn]; exact h0, hn, fun t ht => absurd ht (Nat.not_lt_zero _)⟩
    · obtain ⟨a, b, c⟩ := h i (by omega)
      obtain ⟨z, h1, h2, h3, h4⟩ := ff_chain h0 h d (E i) b (by omega)
      refine ⟨z + 1, by omega, ?_, ?_, ?_⟩
      · rw [c, h2, nI_add, Nat.add_comm]
      · rw [← ff_ch_f]; exact h3
      · intro t ht
        cases t with
        | zero => show i < n; omega
        | succ t => rw [← ff_ch_f]; exact h4 t (by omega)
def ff_sn (P : Nat → Int32) (n : Nat) (base bw : Int32) : Nat := ((ff_D P n base bw n).2.1 0).toNatClampNeg
theorem ff_sn_ok (P : Nat → Int32) {n : Nat} (base bw : Int32) (hn : n ≤ 60) : ff_sn P n base bw ≤ n ∧ (ff_D P n base bw n).2.1 0 = nI (ff_sn P n base bw) ∧ ff_ch (ff_D P n base bw n).2.2 (ff_sn P n base bw) 0 = n ∧ ∀ t, t < ff_sn P n base bw → ff_ch (ff_D P n base bw n).2.2 t 0 < n := by
  obtain ⟨h0, h⟩ := ff_D_e (P := P) (n := n) (base := base) (bw := bw) (k := n) (Nat.le_refl _)
  obtain ⟨z, h1, h2, h3, h4⟩ := ff_chain h0 (fun i hi => h i (by omega) hi) n 0 (Nat.zero_le _) (by omega)
  have hz : ff_sn P n base bw = z := by
    unfold ff_sn
    rw [h2, nI_clamp (by omega)]
  rw [hz]
  exact ⟨by omega, h2, h3, h4⟩
theorem ff_dm {d : Nat} (h : d ≤ 60) : nI d - nI 1 < 0 ↔ d = 0 := by
  have key : ∀ d : Fin 61, (nI d.val - nI 1 < 0) = (d.val = 0) := by
    intro d
    have : ∀ d : Fin 61, decide (nI d.val - nI 1 < 0) = decide (d.val = 0) := by decide +kernel
    have h1 := this d
    exact propext ⟨fun q => of_decide_eq_true (h1 ▸ decide_eq_true q), fun q => of_decide_eq_true (h1.symm ▸ decide_eq_true q)⟩
  have := key ⟨d, by omega⟩
  rw [this]
theorem ff_Dok_0 {P : Nat → Int32} {n : Nat} {base bw : Int32} (lc fw fe : Nat → Int32) : ff_Dok P n base bw (n - n) (upd lc n (nI 0)) (upd fw n (nI 0)) fe := by
  intro i h1 h2
  have hi : i = n := by omega
  subst hi
  rw [Nat.sub_self, pk_us, pk_us]
  exact ⟨rfl, rfl, fun h => absurd h (Nat.lt_irrefl _)⟩
theorem ff_w1 {s : Nat} {lc fw fe LC FW FE : Nat → Int32} {a b c : Int32} (h : ∀ x, ¬ x = s → LC x = lc x ∧ FW x = fw x ∧ FE x = fe x) : ∀ x, ¬ x = s → upd LC s a x = lc x ∧ upd FW s b x = fw x ∧ upd FE s c x = fe x := by
  intro x hx
  rw [pk_un hx, pk_un hx, pk_un hx]
  exact h x hx
theorem ff_w2 {C F LC FW FE : Nat → Int32} {s t : Nat} (h : t = 0 ∨ (C (t + 1) < (ff_bs C F s t).1 ∨ (C (t + 1) = (ff_bs C F s t).1 ∧ F (t + 1) < (ff_bs C F s t).2.1))) : upd LC s (C (t + 1)) s = (ff_bs C F s (t + 1)).1 ∧ upd FW s (F (t + 1)) s = (ff_bs C F s (t + 1)).2.1 ∧ upd FE s (nI (s + 1 + t)) s = nI (ff_bs C F s (t + 1)).2.2 := by
  rw [ff_bs_t h, pk_us, pk_us, pk_us, show s + 1 + t = s + t + 1 by omega]
  exact ⟨rfl, rfl, rfl⟩
theorem ff_w3 {x y A B : Int32} {b : Int32 × Int32 × Nat} {E : Int32} (h : A = b.1 ∧ B = b.2.1 ∧ E = nI b.2.2) (c : x < A ∨ (x = A ∧ y < B)) : x < b.1 ∨ (x = b.1 ∧ y < b.2.1) := by
  rw [← h.1, ← h.2.1]; exact c
theorem ff_w4 {C F LC FW FE : Nat → Int32} {s t : Nat} (h : LC s = (ff_bs C F s t).1 ∧ FW s = (ff_bs C F s t).2.1 ∧ FE s = nI (ff_bs C F s t).2.2) (ht : ¬ t = 0) (c : ¬ (C (t + 1) < LC s ∨ (C (t + 1) = LC s ∧ F (t + 1) < FW s))) : LC s = (ff_bs C F s (t + 1)).1 ∧ FW s = (ff_bs C F s (t + 1)).2.1 ∧ FE s = nI (ff_bs C F s (t + 1)).2.2 := by
  rw [ff_bs_f (fun q => q.elim ht (fun q => c (by rw [h.1, h.2.1]; exact q)))]
  exact h
theorem ff_Dok_d {P : Nat → Int32} {n : Nat} {base bw : Int32} {d : Nat} {lc fw fe lc' fw' fe' : Nat → Int32} (hd : d + 1 ≤ n) (h : ff_Dok P n base bw (n - (d + 1)) lc fw fe)
    (h2 : (∀ x, ¬ x = d → lc' x = lc x ∧ fw' x = fw x ∧ fe' x = fe x) ∧ lc' d = (ff_bs (ff_C base bw P lc d) (ff_W fw d) d (n - d)).1 ∧ fw' d = (ff_bs (ff_C base bw P lc d) (ff_W fw d) d (n - d)).2.1 ∧ fe' d = nI (ff_bs (ff_C base bw P lc d) (ff_W fw d) d (n - d)).2.2) : ff_Dok P n base bw (n - d) lc' fw' fe' := by
  have e1 : n - 1 - (n - (d + 1)) = d := by omega
  have e2 : n - d = n - (d + 1) + 1 := by omega
  rw [e2] at h2 ⊢
  refine ff_Dok_s (k := n - (d + 1)) (by omega) h ?_ ?_
  · rw [e1]; exact h2.1
  · rw [e1]; exact h2.2
end
section
set_option maxHeartbeats 4000000 in
set_option maxRecDepth 100000 in
theorem k_X2_isBetter (l : Launch) (D : va_G) (cI : ClassId) (a0 a1 a2 a3 a4 : Nat) (z w : Int32) (ST lc fw fe : Nat → Int32) (q : Nat) (x y : Int32) (hq : q < 60) : Cp l yX2_isBetter cX2_isBetter 4 (some .boolean) 0 D (tI cI) [.ref a0, .int (nI q), .int x, .int y] [(a0, .inr (2, [.ref a1, .int z, .int w, .ref a2, .ref a3, .ref a4])), (a1, oI cI 60 ST), (a2, oI cI 61 lc), (a3, oI cI 61 fw), (a4, oI cI 61 fe)] (bI (x < lc q ∨ (x = lc q ∧ y < fw q))) := by
  refine Cp.of (own := RX2) (lv := [(0, .ref a0), (1, .int (nI q)), (2, .int x), (3, .int y)]) (by decide +kernel) rfl (Nat.le_of_ble_eq_true rfl) rfl (bI_nar _) ?_
  intro p e s m args below meth c Q cx hK hP hret ls hl
  obtain ⟨hx, hb, hml, hown, hg⟩ := id cx
  have hS : va_S (fun _ => False) s.heap s.heap [] := va_S.rf
  refine lv_iload_n hx hb dX2_isBetter_0 rfl (lv_at hl 2 rfl) ?_
  refine lv_aload_n hx hb dX2_isBetter_1 rfl (lv_at hl 0 rfl) ?_
  refine gf_X2_15 hx hb hg hown hK hP 0 rfl rfl dX2_isBetter_2 ?_
  refine lv_iload_n hx hb dX2_isBetter_5 rfl (lv_at hl 1 rfl) ?_
  refine ald hx hb hK hP 2 rfl rfl (by omega) dX2_isBetter_6 ?_
  refine lv_icmp_lt (tgt := 30) hx hb dX2_isBetter_7 (by decide) (fun c7 => ?_) (fun c7 => ?_)
  · skip
    refine lv_iconst (v := nI 1) hx hb dX2_isBetter_30 (by decide) ?_
    refine lv_goto (tgt := 35) hx hb dX2_isBetter_31 (by decide) ?_
    exact hret _ _ 35 _ _ hS dX2_isBetter_35 (by first | exact bI_1 (Or.inl c7) | exact bI_1 (Or.inr ⟨c17, i_nle.mp c27⟩) | exact bI_0 (fun h => h.elim c7 (fun h => c17 h.1)) | exact bI_0 (fun h => h.elim c7 (fun h => i_nlt.mpr c27 h.2)))
  · skip
    refine lv_iload_n hx hb dX2_isBetter_10 rfl (lv_at hl 2 rfl) ?_
    refine lv_aload_n hx hb dX2_isBetter_11 rfl (lv_at hl 0 rfl) ?_
    refine gf_X2_15 hx hb hg hown hK hP 0 rfl rfl dX2_isBetter_12 ?_
    refine lv_iload_n hx hb dX2_isBetter_15 rfl (lv_at hl 1 rfl) ?_
    refine ald hx hb hK hP 2 rfl rfl (by omega) dX2_isBetter_16 ?_
    refine lv_icmp_ne (tgt := 34) hx hb dX2_isBetter_17 (by decide) (fun c17 => ?_) (fun c17 => ?_)
    · skip
      refine lv_iconst (v := nI 0) hx hb dX2_isBetter_34 (by decide) ?_
      exact hret _ _ 35 _ _ hS dX2_isBetter_35 (by first | exact bI_1 (Or.inl c7) | exact bI_1 (Or.inr ⟨c17, i_nle.mp c27⟩) | exact bI_0 (fun h => h.elim c7 (fun h => c17 h.1)) | exact bI_0 (fun h => h.elim c7 (fun h => i_nlt.mpr c27 h.2)))
    · skip
      refine lv_iload_n hx hb dX2_isBetter_20 rfl (lv_at hl 3 rfl) ?_
      refine lv_aload_n hx hb dX2_isBetter_21 rfl (lv_at hl 0 rfl) ?_
      refine gf_X2_18 hx hb hg hown hK hP 0 rfl rfl dX2_isBetter_22 ?_
      refine lv_iload_n hx hb dX2_isBetter_25 rfl (lv_at hl 1 rfl) ?_
      refine ald hx hb hK hP 3 rfl rfl (by omega) dX2_isBetter_26 ?_
      refine lv_icmp_ge (tgt := 34) hx hb dX2_isBetter_27 (by decide) (fun c27 => ?_) (fun c27 => ?_)
      · skip
        refine lv_iconst (v := nI 0) hx hb dX2_isBetter_34 (by decide) ?_
        exact hret _ _ 35 _ _ hS dX2_isBetter_35 (by first | exact bI_1 (Or.inl c7) | exact bI_1 (Or.inr ⟨c17, i_nle.mp c27⟩) | exact bI_0 (fun h => h.elim c7 (fun h => c17 h.1)) | exact bI_0 (fun h => h.elim c7 (fun h => i_nlt.mpr c27 h.2)))
      · skip
        refine lv_iconst (v := nI 1) hx hb dX2_isBetter_30 (by decide) ?_
        refine lv_goto (tgt := 35) hx hb dX2_isBetter_31 (by decide) ?_
        exact hret _ _ 35 _ _ hS dX2_isBetter_35 (by first | exact bI_1 (Or.inl c7) | exact bI_1 (Or.inr ⟨c17, i_nle.mp c27⟩) | exact bI_0 (fun h => h.elim c7 (fun h => c17 h.1)) | exact bI_0 (fun h => h.elim c7 (fun h => i_nlt.mpr c27 h.2)))

set_option maxHeartbeats 4000000 in
set_option maxRecDepth 100000 in
theorem k_X2_weighFrom (l : Launch) (D : va_G) (cI : ClassId) (a0 a1 a2 a3 a4 : Nat) (z w : Int32) (ST lc fw fe : Nat → Int32) (b0 b1 b2 n : Nat) (P L : Nat → Int32) (s9 : Nat) (base bw : Int32) (hs9 : s9 < n) (hn : n ≤ 60) : Cv l yX2_weighFrom cX2_weighFrom 10 1 0 0 D (tI cI) [.ref a0, .ref b0, .int (nI s9), .int base, .int bw] [(a0, .inr (2, [.ref a1, .int z, .int w, .ref a2, .ref a3, .ref a4])), (a1, oI cI 60 ST), (a2, oI cI 61 lc), (a3, oI cI 61 fw), (a4, oI cI 61 fe), (b0, .inr (1, [.ref b1, .ref b2, .int (nI n)])), (b1, oI cI 60 P), (b2, oI cI 60 L)] (S := (Nat → Int32) × (Nat → Int32) × (Nat → Int32)) (fun u => (∀ x, ¬ x = s9 → u.1 x = lc x ∧ u.2.1 x = fw x ∧ u.2.2 x = fe x) ∧ u.1 s9 = (ff_bs (ff_C base bw P lc s9) (ff_W fw s9) s9 (n - s9)).1 ∧ u.2.1 s9 = (ff_bs (ff_C base bw P lc s9) (ff_W fw s9) s9 (n - s9)).2.1 ∧ u.2.2 s9 = nI (ff_bs (ff_C base bw P lc s9) (ff_W fw s9) s9 (n - s9)).2.2) (fun u => [(a0, .inr (2, [.ref a1, .int z, .int w, .ref a2, .ref a3, .ref a4])), (a1, oI cI 60 ST), (a2, oI cI 61 (u.1)), (a3, oI cI 61 (u.2.1)), (a4, oI cI 61 (u.2.2)), (b0, .inr (1, [.ref b1, .ref b2, .int (nI n)])), (b1, oI cI 60 P), (b2, oI cI 60 L)]) := by
  refine Cv.of (own := RX2) (lv := [(0, .ref a0), (1, .ref b0), (2, .int (nI s9)), (3, .int base), (4, .int bw)]) (by decide +kernel) rfl (Nat.le_of_ble_eq_true rfl) rfl ?_
  intro p e s m args below meth c Q A cx hin hK hP hD hA hret ls hl
  obtain ⟨hx, hb, hml, hown, hg⟩ := id cx
  have hS : va_S A s.heap s.heap [] := va_S.rf
  refine lv_aload_n hx hb dX2_weighFrom_0 rfl (lv_at hl 1 rfl) ?_
  refine gf_X2_38 hx hb hg hown hK hP 5 rfl rfl dX2_weighFrom_1 ?_
  refine lv_iload_n hx hb dX2_weighFrom_4 rfl (lv_at hl 2 rfl) ?_
  refine ald hx hb hK hP 6 rfl rfl (by omega) dX2_weighFrom_5 ?_
  refine lv_istore (lv' := [(5, .int ((P s9))), (0, .ref a0), (1, .ref b0), (2, .int (nI s9)), (3, .int base), (4, .int bw)]) hx hb dX2_weighFrom_6 hl (by decide) rfl (fun ls hl => ?_)
  refine lv_iload hx hb dX2_weighFrom_8 (lv_at hl 0 rfl) ?_
  refine lv_istore (lv' := [(6, .int ((P s9))), (5, .int ((P s9))), (0, .ref a0), (1, .ref b0), (2, .int (nI s9)), (3, .int base), (4, .int bw)]) hx hb dX2_weighFrom_10 hl (by decide) rfl (fun ls hl => ?_)
  refine lv_iload_n hx hb dX2_weighFrom_12 rfl (lv_at hl 4 rfl) ?_
  refine lv_iconst (v := nI 1) hx hb dX2_weighFrom_13 (by decide) ?_
  refine lv_iadd hx hb dX2_weighFrom_14 ?_
  refine lv_asi (nI_add _ _) ?_
  refine lv_istore (lv' := [(7, .int (nI (s9 + 1))), (6, .int ((P s9))), (5, .int ((P s9))), (0, .ref a0), (1, .ref b0), (2, .int (nI s9)), (3, .int base), (4, .int bw)]) hx hb dX2_weighFrom_15 hl (by decide) rfl (fun ls hl => ?_)
  have lp_17 : ∀ (k : Nat) (t : Nat) (LC : Nat → Int32) (FW : Nat → Int32) (FE : Nat → Int32) (H : Heap) (locs : List Loc) (ls : Array Slot), (s9 + t ≤ n) → (∀ x, ¬ x = s9 → LC x = lc x ∧ FW x = fw x ∧ FE x = fe x) → (1 ≤ t → LC s9 = (ff_bs (ff_C base bw P lc s9) (ff_W fw s9) s9 t).1 ∧ FW s9 = (ff_bs (ff_C base bw P lc s9) (ff_W fw s9) s9 t).2.1 ∧ FE s9 = nI (ff_bs (ff_C base bw P lc s9) (ff_W fw s9) s9 t).2.2) → (n - s9 - t < k) → va_P D vwCl [(a0, .inr (2, [.ref a1, .int z, .int w, .ref a2, .ref a3, .ref a4])), (a1, oI cI 60 ST), (a2, oI cI 61 LC), (a3, oI cI 61 FW), (a4, oI cI 61 FE), (b0, .inr (1, [.ref b1, .ref b2, .int (nI n)])), (b1, oI cI 60 P), (b2, oI cI 60 L)] H → va_D A [(a0, .inr (2, [.ref a1, .int z, .int w, .ref a2, .ref a3, .ref a4])), (a1, oI cI 60 ST), (a2, oI cI 61 LC), (a3, oI cI 61 FW), (a4, oI cI 61 FE), (b0, .inr (1, [.ref b1, .ref b2, .int (nI n)])), (b1, oI cI 60 P), (b2, oI cI 60 L)] → va_S A s.heap H locs → lv_has ls 10 [(0, .ref a0), (1, .ref b0), (2, .int (nI s9)), (3, .int base), (4, .int bw), (5, .int ((ff_mx P s9 t))), (6, .int ((ff_mn P s9 t))), (7, .int (nI (s9 + 1 + t)))] → W p l e (rr 1 0 0) s m args below meth c H locs 0 0 Q (F0 m 17 ls []) := by
    intro k
    induction k with
    | zero =>
      intro t LC FW FE H locs ls ht hx1 hx2 hk
      exact absurd hk (Nat.not_lt_zero _)
    | succ k ih_17 =>
      intro t LC FW FE H locs ls ht hx1 hx2 hk hP hD hS hl
      refine lv_iload hx hb dX2_weighFrom_17 (lv_at hl 7 rfl) ?_
      refine lv_aload_n hx hb dX2_weighFrom_19 rfl (lv_at hl 1 rfl) ?_
      refine gf_X2_24 hx hb hg hown hK hP 5 rfl rfl dX2_weighFrom_20 ?_
      refine lv_icmp_gt (tgt := 139) hx hb dX2_weighFrom_23 (by decide) (fun c23 => ?_) (fun c23 => ?_)
      · have c23 := (nI_ltI (by omega) (by omega)).mp c23
        obtain rfl : t = n - s9 := by omega
        exact hret _ _ 139 _ ((_, _, _)) (⟨hx1, hx2 (by omega)⟩) hP hD hS dX2_weighFrom_139
      · have c23 := mt (nI_ltI (by omega) (by omega)).mpr c23
        refine lv_iload hx hb dX2_weighFrom_26 (lv_at hl 5 rfl) ?_
        refine lv_aload_n hx hb dX2_weighFrom_28 rfl (lv_at hl 1 rfl) ?_
        refine gf_X2_38 hx hb hg hown hK hP 5 rfl rfl dX2_weighFrom_29 ?_
        refine lv_iload hx hb dX2_weighFrom_32 (lv_at hl 7 rfl) ?_
        refine lv_iconst (v := nI 1) hx hb dX2_weighFrom_34 (by decide) ?_
        refine lv_isub hx hb dX2_weighFrom_35 ?_
        refine lv_asi (pk_sub (by omega)) ?_
        refine ald hx hb hK hP 6 rfl rfl (by omega) dX2_weighFrom_36 ?_
        refine va_mmax hx hb (hml.trans hl.1.symm) hown (hg _ wd_ml_X2_41) (hg _ wd_st_J9_max_7cf53) (hg _ wd_in_J9) (hg _ wd_co_J9_max_7cf53) (Nat.le_of_ble_eq_true rfl) (Nat.le_of_ble_eq_true rfl) (Nat.zero_le _) (Nat.zero_le _) dX2_weighFrom_37 ?_
        refine lv_asi (y := (ff_mx P s9 (t + 1))) (by rw [show s9 + 1 + t - 1 = s9 + t by omega]; rfl) ?_
        refine lv_istore (lv' := [(5, .int ((ff_mx P s9 (t + 1)))), (0, .ref a0), (1, .ref b0), (2, .int (nI s9)), (3, .int base), (4, .int bw), (6, .int ((ff_mn P s9 t))), (7, .int (nI (s9 + 1 + t)))]) hx hb dX2_weighFrom_40 hl (by decide) rfl (fun ls hl => ?_)
        refine lv_iload hx hb dX2_weighFrom_42 (lv_at hl 6 rfl) ?_
        refine lv_aload_n hx hb dX2_weighFrom_44 rfl (lv_at hl 2 rfl) ?_
        refine gf_X2_38 hx hb hg hown hK hP 5 rfl rfl dX2_weighFrom_45 ?_
        refine lv_iload hx hb dX2_weighFrom_48 (lv_at hl 7 rfl) ?_
        refine lv_iconst (v := nI 1) hx hb dX2_weighFrom_50 (by decide) ?_
        refine lv_isub hx hb dX2_weighFrom_51 ?_
        refine lv_asi (pk_sub (by omega)) ?_
        refine ald hx hb hK hP 6 rfl rfl (by omega) dX2_weighFrom_52 ?_
        refine va_mmin hx hb (hml.trans hl.1.symm) hown (hg _ wd_ml_X2_47) (hg _ wd_st_J9_min_7cf53) (hg _ wd_in_J9) (hg _ wd_co_J9_min_7cf53) (Nat.le_of_ble_eq_true rfl) (Nat.le_of_ble_eq_true rfl) (Nat.zero_le _) (Nat.zero_le _) dX2_weighFrom_53 ?_
        refine lv_asi (y := (ff_mn P s9 (t + 1))) (by rw [show s9 + 1 + t - 1 = s9 + t by omega]; rfl) ?_
        refine lv_istore (lv' := [(6, .int ((ff_mn P s9 (t + 1)))), (5, .int ((ff_mx P s9 (t + 1)))), (0, .ref a0), (1, .ref b0), (2, .int (nI s9)), (3, .int base), (4, .int bw), (7, .int (nI (s9 + 1 + t)))]) hx hb dX2_weighFrom_56 hl (by decide) rfl (fun ls hl => ?_)
        refine lv_iload_n hx hb dX2_weighFrom_58 rfl (lv_at hl 5 rfl) ?_
        refine lv_iload hx hb dX2_weighFrom_59 (lv_at hl 6 rfl) ?_
        refine lv_iload hx hb dX2_weighFrom_61 (lv_at hl 1 rfl) ?_
        refine lv_iload hx hb dX2_weighFrom_63 (lv_at hl 0 rfl) ?_
        refine lv_isub hx hb dX2_weighFrom_65 ?_
        refine lv_imul hx hb dX2_weighFrom_66 ?_
        refine lv_iadd hx hb dX2_weighFrom_67 ?_
        refine lv_aload_n hx hb dX2_weighFrom_68 rfl (lv_at hl 2 rfl) ?_
        refine gf_X2_15 hx hb hg hown hK hP 0 rfl rfl dX2_weighFrom_69 ?_
        refine lv_iload hx hb dX2_weighFrom_72 (lv_at hl 7 rfl) ?_
        refine ald hx hb hK hP 2 rfl rfl (by omega) dX2_weighFrom_74 ?_
        refine lv_asi (y := (lc (s9 + (t + 1)))) (by rw [show s9 + 1 + t = s9 + (t + 1) by omega]; exact (hx1 _ (by omega)).1) ?_
        refine lv_iadd hx hb dX2_weighFrom_75 ?_
        refine lv_asi (y := (ff_C base bw P lc s9 (t + 1))) (rfl) ?_
        refine lv_istore (lv' := [(8, .int ((ff_C base bw P lc s9 (t + 1)))), (6, .int ((ff_mn P s9 (t + 1)))), (5, .int ((ff_mx P s9 (t + 1)))), (0, .ref a0), (1, .ref b0), (2, .int (nI s9)), (3, .int base), (4, .int bw), (7, .int (nI (s9 + 1 + t)))]) hx hb dX2_weighFrom_76 hl (by decide) rfl (fun ls hl => ?_)
        refine lv_iconst (v := nI 1) hx hb dX2_weighFrom_78 (by decide) ?_
        refine lv_aload_n hx hb dX2_weighFrom_79 rfl (lv_at hl 3 rfl) ?_
        refine gf_X2_18 hx hb hg hown hK hP 0 rfl rfl dX2_weighFrom_80 ?_
        refine lv_iload hx hb dX2_weighFrom_83 (lv_at hl 8 rfl) ?_
        refine ald hx hb hK hP 3 rfl rfl (by omega) dX2_weighFrom_85 ?_
        refine lv_asi (y := (fw (s9 + (t + 1)))) (by rw [show s9 + 1 + t = s9 + (t + 1) by omega]; exact (hx1 _ (by omega)).2.1) ?_
        refine lv_iadd hx hb dX2_weighFrom_86 ?_
        refine lv_asi (y := (ff_W fw s9 (t + 1))) (rfl) ?_
        refine lv_istore (lv' := [(9, .int ((ff_W fw s9 (t + 1)))), (8, .int ((ff_C base bw P lc s9 (t + 1)))), (6, .int ((ff_mn P s9 (t + 1)))), (5, .int ((ff_mx P s9 (t + 1)))), (0, .ref a0), (1, .ref b0), (2, .int (nI s9)), (3, .int base), (4, .int bw), (7, .int (nI (s9 + 1 + t)))]) hx hb dX2_weighFrom_87 hl (by decide) rfl (fun ls hl => ?_)
        refine lv_iload hx hb dX2_weighFrom_89 (lv_at hl 9 rfl) ?_
        refine lv_iload_n hx hb dX2_weighFrom_91 rfl (lv_at hl 6 rfl) ?_
        refine lv_iconst (v := nI 1) hx hb dX2_weighFrom_92 (by decide) ?_
        refine lv_iadd hx hb dX2_weighFrom_93 ?_
        refine lv_asi (nI_add _ _) ?_
        refine lv_icmp_eq (tgt := 109) hx hb dX2_weighFrom_94 (by decide) (fun c94 => ?_) (fun c94 => ?_)
        · have c94 := (nI_eq (by omega) (by omega)).mp c94
          refine lv_aload_n hx hb dX2_weighFrom_109 rfl (lv_at hl 4 rfl) ?_
          refine gf_X2_15 hx hb hg hown hK hP 0 rfl rfl dX2_weighFrom_110 ?_
          refine lv_iload_n hx hb dX2_weighFrom_113 rfl (lv_at hl 6 rfl) ?_
          refine lv_iload hx hb dX2_weighFrom_114 (lv_at hl 1 rfl) ?_
          refine ast hx hb hK hP hD hS 2 rfl rfl (by omega) dX2_weighFrom_116 (fun H locs hP hD hS => ?_)
          have hP : va_P D vwCl [(a0, .inr (2, [.ref a1, .int z, .int w, .ref a2, .ref a3, .ref a4])), (a1, oI cI 60 ST), (a2, oI cI 61 (upd LC s9 ((ff_C base bw P lc s9 (t + 1))))), (a3, oI cI 61 FW), (a4, oI cI 61 FE), (b0, .inr (1, [.ref b1, .ref b2, .int (nI n)])), (b1, oI cI 60 P), (b2, oI cI 60 L)] H := hP
          have hD : va_D A [(a0, .inr (2, [.ref a1, .int z, .int w, .ref a2, .ref a3, .ref a4])), (a1, oI cI 60 ST), (a2, oI cI 61 (upd LC s9 ((ff_C base bw P lc s9 (t + 1))))), (a3, oI cI 61 FW), (a4, oI cI 61 FE), (b0, .inr (1, [.ref b1, .ref b2, .int (nI n)])), (b1, oI cI 60 P), (b2, oI cI 60 L)] := hD
          refine lv_aload_n hx hb dX2_weighFrom_117 rfl (lv_at hl 4 rfl) ?_
          refine gf_X2_18 hx hb hg hown hK hP 0 rfl rfl dX2_weighFrom_118 ?_
          refine lv_iload_n hx hb dX2_weighFrom_121 rfl (lv_at hl 6 rfl) ?_
          refine lv_iload hx hb dX2_weighFrom_122 (lv_at hl 0 rfl) ?_
          refine ast hx hb hK hP hD hS 3 rfl rfl (by omega) dX2_weighFrom_124 (fun H locs hP hD hS => ?_)
          have hP : va_P D vwCl [(a0, .inr (2, [.ref a1, .int z, .int w, .ref a2, .ref a3, .ref a4])), (a1, oI cI 60 ST), (a2, oI cI 61 (upd LC s9 ((ff_C base bw P lc s9 (t + 1))))), (a3, oI cI 61 (upd FW s9 ((ff_W fw s9 (t + 1))))), (a4, oI cI 61 FE), (b0, .inr (1, [.ref b1, .ref b2, .int (nI n)])), (b1, oI cI 60 P), (b2, oI cI 60 L)] H := hP
          have hD : va_D A [(a0, .inr (2, [.ref a1, .int z, .int w, .ref a2, .ref a3, .ref a4])), (a1, oI cI 60 ST), (a2, oI cI 61 (upd LC s9 ((ff_C base bw P lc s9 (t + 1))))), (a3, oI cI 61 (upd FW s9 ((ff_W fw s9 (t + 1))))), (a4, oI cI 61 FE), (b0, .inr (1, [.ref b1, .ref b2, .int (nI n)])), (b1, oI cI 60 P), (b2, oI cI 60 L)] := hD
          refine lv_aload_n hx hb dX2_weighFrom_125 rfl (lv_at hl 4 rfl) ?_
          refine gf_X2_21 hx hb hg hown hK hP 0 rfl rfl dX2_weighFrom_126 ?_
          refine lv_iload_n hx hb dX2_weighFrom_129 rfl (lv_at hl 6 rfl) ?_
          refine lv_iload hx hb dX2_weighFrom_130 (lv_at hl 9 rfl) ?_
          refine ast hx hb hK hP hD hS 4 rfl rfl (by omega) dX2_weighFrom_132 (fun H locs hP hD hS => ?_)
          have hP : va_P D vwCl [(a0, .inr (2, [.ref a1, .int z, .int w, .ref a2, .ref a3, .ref a4])), (a1, oI cI 60 ST), (a2, oI cI 61 (upd LC s9 ((ff_C base bw P lc s9 (t + 1))))), (a3, oI cI 61 (upd FW s9 ((ff_W fw s9 (t + 1))))), (a4, oI cI 61 (upd FE s9 (nI (s9 + 1 + t)))), (b0, .inr (1, [.ref b1, .ref b2, .int (nI n)])), (b1, oI cI 60 P), (b2, oI cI 60 L)] H := hP
          have hD : va_D A [(a0, .inr (2, [.ref a1, .int z, .int w, .ref a2, .ref a3, .ref a4])), (a1, oI cI 60 ST), (a2, oI cI 61 (upd LC s9 ((ff_C base bw P lc s9 (t + 1))))), (a3, oI cI 61 (upd FW s9 ((ff_W fw s9 (t + 1))))), (a4, oI cI 61 (upd FE s9 (nI (s9 + 1 + t)))), (b0, .inr (1, [.ref b1, .ref b2, .int (nI n)])), (b1, oI cI 60 P), (b2, oI cI 60 L)] := hD
          refine lv_iinc (v := nI (s9 + 1 + t + 1)) (lv' := [(7, .int (nI (s9 + 1 + t + 1))), (9, .int ((ff_W fw s9 (t + 1)))), (8, .int ((ff_C base bw P lc s9 (t + 1)))), (6, .int ((ff_mn P s9 (t + 1)))), (5, .int ((ff_mx P s9 (t + 1)))), (0, .ref a0), (1, .ref b0), (2, .int (nI s9)), (3, .int base), (4, .int bw)]) hx hb dX2_weighFrom_133 hl (k := 9) rfl (nI_1 _) (by decide) rfl (fun ls hl => ?_)
          refine lv_goto (tgt := 17) hx hb dX2_weighFrom_136 (by decide) ?_
          rw [show s9 + 1 + t + 1 = s9 + 1 + (t + 1) by omega] at hl
          exact ih_17 (t + 1) (_) (_) (_) _ _ _ (by omega) (by first | exact ff_w1 hx1 | exact hx1) (fun _ => by first | exact ff_w2 (Or.inl (by omega)) | exact ff_w2 (Or.inr (ff_w3 (hx2 (by omega)) c106)) | exact ff_w4 (hx2 (by omega)) (by omega) c106) (by omega) hP hD hS (lv_sub hl [5, 6, 7, 8, 9, 4, 3, 0] rfl)
        · have c94 := mt (nI_eq (by omega) (by omega)).mpr c94
          refine lv_aload_n hx hb dX2_weighFrom_97 rfl (lv_at hl 4 rfl) ?_
          refine lv_iload_n hx hb dX2_weighFrom_98 rfl (lv_at hl 6 rfl) ?_
          refine lv_iload hx hb dX2_weighFrom_99 (lv_at hl 1 rfl) ?_
          refine lv_iload hx hb dX2_weighFrom_101 (lv_at hl 0 rfl) ?_
          refine Cp.callV (As := [.int (nI s9), .int ((ff_C base bw P lc s9 (t + 1))), .int ((ff_W fw s9 (t + 1)))]) (rest := []) (cv_X2_50 hg ⟨Nat.le_of_ble_eq_true rfl, Nat.le_of_ble_eq_true rfl⟩) (k_X2_isBetter l D cI a0 a1 a2 a3 a4 z w ST LC FW FE s9 (ff_C base bw P lc s9 (t + 1)) (ff_W fw s9 (t + 1)) (by omega)) cx hK hP [0, 1, 2, 3, 4] rfl (rq := 0) rfl rfl rfl hS rfl hl.1 rfl (Nat.le_of_ble_eq_true rfl) dX2_weighFrom_103 ⟨Nat.zero_le _, Nat.zero_le _⟩ (fun H locs hP hS => ?_)
          refine lv_if_eq (tgt := 133) hx hb dX2_weighFrom_106 (by decide) (fun c106 => ?_) (fun c106 => ?_)
          · have c106 := bI_z.mp c106
            refine lv_iinc (v := nI (s9 + 1 + t + 1)) (lv' := [(7, .int (nI (s9 + 1 + t + 1))), (9, .int ((ff_W fw s9 (t + 1)))), (8, .int ((ff_C base bw P lc s9 (t + 1)))), (6, .int ((ff_mn P s9 (t + 1)))), (5, .int ((ff_mx P s9 (t + 1)))), (0, .ref a0), (1, .ref b0), (2, .int (nI s9)), (3, .int base), (4, .int bw)]) hx hb dX2_weighFrom_133 hl (k := 9) rfl (nI_1 _) (by decide) rfl (fun ls hl => ?_)
            refine lv_goto (tgt := 17) hx hb dX2_weighFrom_136 (by decide) ?_
            rw [show s9 + 1 + t + 1 = s9 + 1 + (t + 1) by omega] at hl
            exact ih_17 (t + 1) (_) (_) (_) _ _ _ (by omega) (by first | exact ff_w1 hx1 | exact hx1) (fun _ => by first | exact ff_w2 (Or.inl (by omega)) | exact ff_w2 (Or.inr (ff_w3 (hx2 (by omega)) c106)) | exact ff_w4 (hx2 (by omega)) (by omega) c106) (by omega) hP hD hS (lv_sub hl [5, 6, 7, 8, 9, 4, 3, 0] rfl)
          · have c106 := bI_nz.mp c106
            refine lv_aload_n hx hb dX2_weighFrom_109 rfl (lv_at hl 4 rfl) ?_
            refine gf_X2_15 hx hb hg hown hK hP 0 rfl rfl dX2_weighFrom_110 ?_
            refine lv_iload_n hx hb dX2_weighFrom_113 rfl (lv_at hl 6 rfl) ?_
            refine lv_iload hx hb dX2_weighFrom_114 (lv_at hl 1 rfl) ?_
            refine ast hx hb hK hP hD hS 2 rfl rfl (by omega) dX2_weighFrom_116 (fun H locs hP hD hS => ?_)
            have hP : va_P D vwCl [(a0, .inr (2, [.ref a1, .int z, .int w, .ref a2, .ref a3, .ref a4])), (a1, oI cI 60 ST), (a2, oI cI 61 (upd LC s9 ((ff_C base bw P lc s9 (t + 1))))), (a3, oI cI 61 FW), (a4, oI cI 61 FE), (b0, .inr (1, [.ref b1, .ref b2, .int (nI n)])), (b1, oI cI 60 P), (b2, oI cI 60 L)] H := hP
            have hD : va_D A [(a0, .inr (2, [.ref a1, .int z, .int w, .ref a2, .ref a3, .ref a4])), (a1, oI cI 60 ST), (a2, oI cI 61 (upd LC s9 ((ff_C base bw P lc s9 (t + 1))))), (a3, oI cI 61 FW), (a4, oI cI 61 FE), (b0, .inr (1, [.ref b1, .ref b2, .int (nI n)])), (b1, oI cI 60 P), (b2, oI cI 60 L)] := hD
            refine lv_aload_n hx hb dX2_weighFrom_117 rfl (lv_at hl 4 rfl) ?_
            refine gf_X2_18 hx hb hg hown hK hP 0 rfl rfl dX2_weighFrom_118 ?_
            refine lv_iload_n hx hb dX2_weighFrom_121 rfl (lv_at hl 6 rfl) ?_
            refine lv_iload hx hb dX2_weighFrom_122 (lv_at hl 0 rfl) ?_
            refine ast hx hb hK hP hD hS 3 rfl rfl (by omega) dX2_weighFrom_124 (fun H locs hP hD hS => ?_)
            have hP : va_P D vwCl [(a0, .inr (2, [.ref a1, .int z, .int w, .ref a2, .ref a3, .ref a4])), (a1, oI cI 60 ST), (a2, oI cI 61 (upd LC s9 ((ff_C base bw P lc s9 (t + 1))))), (a3, oI cI 61 (upd FW s9 ((ff_W fw s9 (t + 1))))), (a4, oI cI 61 FE), (b0, .inr (1, [.ref b1, .ref b2, .int (nI n)])), (b1, oI cI 60 P), (b2, oI cI 60 L)] H := hP
            have hD : va_D A [(a0, .inr (2, [.ref a1, .int z, .int w, .ref a2, .ref a3, .ref a4])), (a1, oI cI 60 ST), (a2, oI cI 61 (upd LC s9 ((ff_C base bw P lc s9 (t + 1))))), (a3, oI cI 61 (upd FW s9 ((ff_W fw s9 (t + 1))))), (a4, oI cI 61 FE), (b0, .inr (1, [.ref b1, .ref b2, .int (nI n)])), (b1, oI cI 60 P), (b2, oI cI 60 L)] := hD
            refine lv_aload_n hx hb dX2_weighFrom_125 rfl (lv_at hl 4 rfl) ?_
            refine gf_X2_21 hx hb hg hown hK hP 0 rfl rfl dX2_weighFrom_126 ?_
            refine lv_iload_n hx hb dX2_weighFrom_129 rfl (lv_at hl 6 rfl) ?_
            refine lv_iload hx hb dX2_weighFrom_130 (lv_at hl 9 rfl) ?_
            refine ast hx hb hK hP hD hS 4 rfl rfl (by omega) dX2_weighFrom_132 (fun H locs hP hD hS => ?_)
            have hP : va_P D vwCl [(a0, .inr (2, [.ref a1, .int z, .int w, .ref a2, .ref a3, .ref a4])), (a1, oI cI 60 ST), (a2, oI cI 61 (upd LC s9 ((ff_C base bw P lc s9 (t + 1))))), (a3, oI cI 61 (upd FW s9 ((ff_W fw s9 (t + 1))))), (a4, oI cI 61 (upd FE s9 (nI (s9 + 1 + t)))), (b0, .inr (1, [.ref b1, .ref b2, .int (nI n)])), (b1, oI cI 60 P), (b2, oI cI 60 L)] H := hP
            have hD : va_D A [(a0, .inr (2, [.ref a1, .int z, .int w, .ref a2, .ref a3, .ref a4])), (a1, oI cI 60 ST), (a2, oI cI 61 (upd LC s9 ((ff_C base bw P lc s9 (t + 1))))), (a3, oI cI 61 (upd FW s9 ((ff_W fw s9 (t + 1))))), (a4, oI cI 61 (upd FE s9 (nI (s9 + 1 + t)))), (b0, .inr (1, [.ref b1, .ref b2, .int (nI n)])), (b1, oI cI 60 P), (b2, oI cI 60 L)] := hD
            refine lv_iinc (v := nI (s9 + 1 + t + 1)) (lv' := [(7, .int (nI (s9 + 1 + t + 1))), (9, .int ((ff_W fw s9 (t + 1)))), (8, .int ((ff_C base bw P lc s9 (t + 1)))), (6, .int ((ff_mn P s9 (t + 1)))), (5, .int ((ff_mx P s9 (t + 1)))), (0, .ref a0), (1, .ref b0), (2, .int (nI s9)), (3, .int base), (4, .int bw)]) hx hb dX2_weighFrom_133 hl (k := 9) rfl (nI_1 _) (by decide) rfl (fun ls hl => ?_)
            refine lv_goto (tgt := 17) hx hb dX2_weighFrom_136 (by decide) ?_
            rw [show s9 + 1 + t + 1 = s9 + 1 + (t + 1) by omega] at hl
            exact ih_17 (t + 1) (_) (_) (_) _ _ _ (by omega) (by first | exact ff_w1 hx1 | exact hx1) (fun _ => by first | exact ff_w2 (Or.inl (by omega)) | exact ff_w2 (Or.inr (ff_w3 (hx2 (by omega)) c106)) | exact ff_w4 (hx2 (by omega)) (by omega) c106) (by omega) hP hD hS (lv_sub hl [5, 6, 7, 8, 9, 4, 3, 0] rfl)
  exact lp_17 (_ + 1) (0) (lc) (fw) (fe) _ _ _ (by omega) (fun x _ => ⟨rfl, rfl, rfl⟩) (fun h => absurd h (by omega)) (Nat.lt_succ_self _) hP hD hS (lv_sub hl [3, 4, 5, 6, 7, 2, 1, 0] rfl)

set_option maxHeartbeats 4000000 in
set_option maxRecDepth 100000 in
theorem k_X2_part (l : Launch) (D : va_G) (cI : ClassId) (a0 a1 a2 a3 a4 : Nat) (z w : Int32) (ST lc fw fe : Nat → Int32) (b0 b1 b2 n : Nat) (P L : Nat → Int32) (base bw : Int32) (hn : n ≤ 60) : Cv l yX2_part cX2_part 6 2 0 0 D (tI cI) [.ref a0, .ref b0, .int base, .int bw] [(a0, .inr (2, [.ref a1, .int z, .int w, .ref a2, .ref a3, .ref a4])), (a1, oI cI 60 ST), (a2, oI cI 61 lc), (a3, oI cI 61 fw), (a4, oI cI 61 fe), (b0, .inr (1, [.ref b1, .ref b2, .int (nI n)])), (b1, oI cI 60 P), (b2, oI cI 60 L)] (S := (Nat → Int32) × (Nat → Int32) × (Nat → Int32) × (Nat → Int32)) (fun u => ∀ t, t < ff_sn P n base bw → u.1 t = nI (ff_ch (ff_D P n base bw n).2.2 t 0)) (fun u => [(a0, .inr (2, [.ref a1, .int (nI (ff_sn P n base bw)), .int (((ff_D P n base bw n).1 0)), .ref a2, .ref a3, .ref a4])), (a1, oI cI 60 (u.1)), (a2, oI cI 61 (u.2.1)), (a3, oI cI 61 (u.2.2.1)), (a4, oI cI 61 (u.2.2.2)), (b0, .inr (1, [.ref b1, .ref b2, .int (nI n)])), (b1, oI cI 60 P), (b2, oI cI 60 L)]) := by
  refine Cv.of (own := RX2) (lv := [(0, .ref a0), (1, .ref b0), (2, .int base), (3, .int bw)]) (by decide +kernel) rfl (Nat.le_of_ble_eq_true rfl) rfl ?_
  intro p e s m args below meth c Q A cx hin hK hP hD hA hret ls hl
  obtain ⟨hx, hb, hml, hown, hg⟩ := id cx
  have hS : va_S A s.heap s.heap [] := va_S.rf
  refine lv_aload_n hx hb dX2_part_0 rfl (lv_at hl 0 rfl) ?_
  refine gf_X2_15 hx hb hg hown hK hP 0 rfl rfl dX2_part_1 ?_
  refine lv_aload_n hx hb dX2_part_4 rfl (lv_at hl 1 rfl) ?_
  refine gf_X2_24 hx hb hg hown hK hP 5 rfl rfl dX2_part_5 ?_
  refine lv_iconst (v := nI 0) hx hb dX2_part_8 (by decide) ?_
  refine ast hx hb hK hP hD hS 2 rfl rfl (by omega) dX2_part_9 (fun H locs hP hD hS => ?_)
  have hP : va_P D vwCl [(a0, .inr (2, [.ref a1, .int z, .int w, .ref a2, .ref a3, .ref a4])), (a1, oI cI 60 ST), (a2, oI cI 61 (upd lc n (nI 0))), (a3, oI cI 61 fw), (a4, oI cI 61 fe), (b0, .inr (1, [.ref b1, .ref b2, .int (nI n)])), (b1, oI cI 60 P), (b2, oI cI 60 L)] H := hP
  have hD : va_D A [(a0, .inr (2, [.ref a1, .int z, .int w, .ref a2, .ref a3, .ref a4])), (a1, oI cI 60 ST), (a2, oI cI 61 (upd lc n (nI 0))), (a3, oI cI 61 fw), (a4, oI cI 61 fe), (b0, .inr (1, [.ref b1, .ref b2, .int (nI n)])), (b1, oI cI 60 P), (b2, oI cI 60 L)] := hD
  refine lv_aload_n hx hb dX2_part_10 rfl (lv_at hl 0 rfl) ?_
  refine gf_X2_18 hx hb hg hown hK hP 0 rfl rfl dX2_part_11 ?_
  refine lv_aload_n hx hb dX2_part_14 rfl (lv_at hl 1 rfl) ?_
  refine gf_X2_24 hx hb hg hown hK hP 5 rfl rfl dX2_part_15 ?_
  refine lv_iconst (v := nI 0) hx hb dX2_part_18 (by decide) ?_
  refine ast hx hb hK hP hD hS 3 rfl rfl (by omega) dX2_part_19 (fun H locs hP hD hS => ?_)
  have hP : va_P D vwCl [(a0, .inr (2, [.ref a1, .int z, .int w, .ref a2, .ref a3, .ref a4])), (a1, oI cI 60 ST), (a2, oI cI 61 (upd lc n (nI 0))), (a3, oI cI 61 (upd fw n (nI 0))), (a4, oI cI 61 fe), (b0, .inr (1, [.ref b1, .ref b2, .int (nI n)])), (b1, oI cI 60 P), (b2, oI cI 60 L)] H := hP
  have hD : va_D A [(a0, .inr (2, [.ref a1, .int z, .int w, .ref a2, .ref a3, .ref a4])), (a1, oI cI 60 ST), (a2, oI cI 61 (upd lc n (nI 0))), (a3, oI cI 61 (upd fw n (nI 0))), (a4, oI cI 61 fe), (b0, .inr (1, [.ref b1, .ref b2, .int (nI n)])), (b1, oI cI 60 P), (b2, oI cI 60 L)] := hD
  refine lv_aload_n hx hb dX2_part_20 rfl (lv_at hl 1 rfl) ?_
  refine gf_X2_24 hx hb hg hown hK hP 5 rfl rfl dX2_part_21 ?_
  refine lv_iconst (v := nI 1) hx hb dX2_part_24 (by decide) ?_
  refine lv_isub hx hb dX2_part_25 ?_
  refine lv_istore (lv' := [(4, .int ((nI n - nI 1))), (0, .ref a0), (1, .ref b0), (2, .int base), (3, .int bw)]) hx hb dX2_part_26 hl (by decide) rfl (fun ls hl => ?_)
  have lp_28 : ∀ (k : Nat) (d : Nat) (LC : Nat → Int32) (FW : Nat → Int32) (FE : Nat → Int32) (H : Heap) (locs : List Loc) (ls : Array Slot), (d ≤ n) → (ff_Dok P n base bw (n - d) LC FW FE) → (d < k) → va_P D vwCl [(a0, .inr (2, [.ref a1, .int z, .int w, .ref a2, .ref a3, .ref a4])), (a1, oI cI 60 ST), (a2, oI cI 61 LC), (a3, oI cI 61 FW), (a4, oI cI 61 FE), (b0, .inr (1, [.ref b1, .ref b2, .int (nI n)])), (b1, oI cI 60 P), (b2, oI cI 60 L)] H → va_D A [(a0, .inr (2, [.ref a1, .int z, .int w, .ref a2, .ref a3, .ref a4])), (a1, oI cI 60 ST), (a2, oI cI 61 LC), (a3, oI cI 61 FW), (a4, oI cI 61 FE), (b0, .inr (1, [.ref b1, .ref b2, .int (nI n)])), (b1, oI cI 60 P), (b2, oI cI 60 L)] → va_S A s.heap H locs → lv_has ls 6 [(0, .ref a0), (1, .ref b0), (2, .int base), (3, .int bw), (4, .int ((nI d - nI 1)))] → W p l e (rr 2 0 0) s m args below meth c H locs 0 0 Q (F0 m 28 ls []) := by
    intro k
    induction k with
    | zero =>
      intro d LC FW FE H locs ls hd hdk hk
      exact absurd hk (Nat.not_lt_zero _)
    | succ k ih_28 =>
      intro d LC FW FE H locs ls hd hdk hk hP hD hS hl
      refine lv_iload hx hb dX2_part_28 (lv_at hl 4 rfl) ?_
      refine lv_if_lt (tgt := 48) hx hb dX2_part_30 (by decide) (fun c30 => ?_) (fun c30 => ?_)
      · skip
        have c30 := (ff_dm (by omega)).mp c30
        subst c30
        rw [Nat.sub_zero] at hdk
        obtain ⟨hz1, hz2, hz3, hz4⟩ := ff_sn_ok P base bw hn
        refine lv_aload_n hx hb dX2_part_48 rfl (lv_at hl 0 rfl) ?_
        refine lv_aload_n hx hb dX2_part_49 rfl (lv_at hl 0 rfl) ?_
        refine gf_X2_15 hx hb hg hown hK hP 0 rfl rfl dX2_part_50 ?_
        refine lv_iconst (v := nI 0) hx hb dX2_part_53 (by decide) ?_
        refine ald hx hb hK hP 2 rfl rfl (by omega) dX2_part_54 ?_
        refine lv_asi (y := ((ff_D P n base bw n).1 0)) ((hdk 0 (by omega) (by omega)).1) ?_
        refine pf_X2_34 hx hb hg hown hK hP hD hS 0 rfl (Nat.le_of_ble_eq_true rfl) dX2_part_55 (fun H locs hP hD hS => ?_)
        have hP : va_P D vwCl [(a0, .inr (2, [.ref a1, .int z, .int (((ff_D P n base bw n).1 0)), .ref a2, .ref a3, .ref a4])), (a1, oI cI 60 ST), (a2, oI cI 61 LC), (a3, oI cI 61 FW), (a4, oI cI 61 FE), (b0, .inr (1, [.ref b1, .ref b2, .int (nI n)])), (b1, oI cI 60 P), (b2, oI cI 60 L)] H := hP
        have hD : va_D A [(a0, .inr (2, [.ref a1, .int z, .int (((ff_D P n base bw n).1 0)), .ref a2, .ref a3, .ref a4])), (a1, oI cI 60 ST), (a2, oI cI 61 LC), (a3, oI cI 61 FW), (a4, oI cI 61 FE), (b0, .inr (1, [.ref b1, .ref b2, .int (nI n)])), (b1, oI cI 60 P), (b2, oI cI 60 L)] := hD
        refine lv_aload_n hx hb dX2_part_58 rfl (lv_at hl 0 rfl) ?_
        refine lv_aload_n hx hb dX2_part_59 rfl (lv_at hl 0 rfl) ?_
        refine gf_X2_18 hx hb hg hown hK hP 0 rfl rfl dX2_part_60 ?_
        refine lv_iconst (v := nI 0) hx hb dX2_part_63 (by decide) ?_
        refine ald hx hb hK hP 3 rfl rfl (by omega) dX2_part_64 ?_
        refine lv_asi (y := nI (ff_sn P n base bw)) (by rw [(hdk 0 (by omega) (by omega)).2.1, hz2]) ?_
        refine pf_X2_37 hx hb hg hown hK hP hD hS 0 rfl (Nat.le_of_ble_eq_true rfl) dX2_part_65 (fun H locs hP hD hS => ?_)
        have hP : va_P D vwCl [(a0, .inr (2, [.ref a1, .int (nI (ff_sn P n base bw)), .int (((ff_D P n base bw n).1 0)), .ref a2, .ref a3, .ref a4])), (a1, oI cI 60 ST), (a2, oI cI 61 LC), (a3, oI cI 61 FW), (a4, oI cI 61 FE), (b0, .inr (1, [.ref b1, .ref b2, .int (nI n)])), (b1, oI cI 60 P), (b2, oI cI 60 L)] H := hP
        have hD : va_D A [(a0, .inr (2, [.ref a1, .int (nI (ff_sn P n base bw)), .int (((ff_D P n base bw n).1 0)), .ref a2, .ref a3, .ref a4])), (a1, oI cI 60 ST), (a2, oI cI 61 LC), (a3, oI cI 61 FW), (a4, oI cI 61 FE), (b0, .inr (1, [.ref b1, .ref b2, .int (nI n)])), (b1, oI cI 60 P), (b2, oI cI 60 L)] := hD
        refine lv_iconst (v := nI 0) hx hb dX2_part_68 (by decide) ?_
        refine lv_istore (lv' := [(4, .int (nI 0)), (0, .ref a0), (1, .ref b0), (2, .int base), (3, .int bw)]) hx hb dX2_part_69 hl (by decide) rfl (fun ls hl => ?_)
        refine lv_iconst (v := nI 0) hx hb dX2_part_71 (by decide) ?_
        refine lv_istore (lv' := [(5, .int (nI 0)), (4, .int (nI 0)), (0, .ref a0), (1, .ref b0), (2, .int base), (3, .int bw)]) hx hb dX2_part_72 hl (by decide) rfl (fun ls hl => ?_)
        have lp_74 : ∀ (k : Nat) (q : Nat) (S9 : Nat → Int32) (H : Heap) (locs : List Loc) (ls : Array Slot), (q ≤ ff_sn P n base bw) → (∀ t, t < q → S9 t = nI (ff_ch (ff_D P n base bw n).2.2 t 0)) → (ff_sn P n base bw - q < k) → va_P D vwCl [(a0, .inr (2, [.ref a1, .int (nI (ff_sn P n base bw)), .int (((ff_D P n base bw n).1 0)), .ref a2, .ref a3, .ref a4])), (a1, oI cI 60 S9), (a2, oI cI 61 LC), (a3, oI cI 61 FW), (a4, oI cI 61 FE), (b0, .inr (1, [.ref b1, .ref b2, .int (nI n)])), (b1, oI cI 60 P), (b2, oI cI 60 L)] H → va_D A [(a0, .inr (2, [.ref a1, .int (nI (ff_sn P n base bw)), .int (((ff_D P n base bw n).1 0)), .ref a2, .ref a3, .ref a4])), (a1, oI cI 60 S9), (a2, oI cI 61 LC), (a3, oI cI 61 FW), (a4, oI cI 61 FE), (b0, .inr (1, [.ref b1, .ref b2, .int (nI n)])), (b1, oI cI 60 P), (b2, oI cI 60 L)] → va_S A s.heap H locs → lv_has ls 6 [(0, .ref a0), (1, .ref b0), (2, .int base), (3, .int bw), (4, .int (nI (ff_ch (ff_D P n base bw n).2.2 q 0))), (5, .int (nI q))] → W p l e (rr 2 0 0) s m args below meth c H locs 0 0 Q (F0 m 74 ls []) := by
          intro k
          induction k with
          | zero =>
            intro q S9 H locs ls hq he hk
            exact absurd hk (Nat.not_lt_zero _)
          | succ k ih_74 =>
            intro q S9 H locs ls hq he hk hP hD hS hl
            refine lv_iload hx hb dX2_part_74 (lv_at hl 5 rfl) ?_
            refine lv_aload_n hx hb dX2_part_76 rfl (lv_at hl 0 rfl) ?_
            refine gf_X2_37 hx hb hg hown hK hP 0 rfl rfl dX2_part_77 ?_
            refine lv_icmp_ge (tgt := 107) hx hb dX2_part_80 (by decide) (fun c80 => ?_) (fun c80 => ?_)
            · have c80 := (nI_leI (by omega) (by omega)).mp c80
              obtain rfl : q = ff_sn P n base bw := by omega
              exact hret _ _ 107 _ ((_, _, _, _)) (he) hP hD hS dX2_part_107
            · have c80 := mt (nI_leI (by omega) (by omega)).mpr c80
              have hlt9 := hz4 q (by omega)
              refine lv_aload_n hx hb dX2_part_83 rfl (lv_at hl 0 rfl) ?_
              refine gf_X2_9 hx hb hg hown hK hP 0 rfl rfl dX2_part_84 ?_
              refine lv_iload hx hb dX2_part_87 (lv_at hl 5 rfl) ?_
              refine lv_iload hx hb dX2_part_89 (lv_at hl 4 rfl) ?_
              refine ast hx hb hK hP hD hS 1 rfl rfl (by omega) dX2_part_91 (fun H locs hP hD hS => ?_)
              have hP : va_P D vwCl [(a0, .inr (2, [.ref a1, .int (nI (ff_sn P n base bw)), .int (((ff_D P n base bw n).1 0)), .ref a2, .ref a3, .ref a4])), (a1, oI cI 60 (upd S9 q (nI (ff_ch (ff_D P n base bw n).2.2 q 0)))), (a2, oI cI 61 LC), (a3, oI cI 61 FW), (a4, oI cI 61 FE), (b0, .inr (1, [.ref b1, .ref b2, .int (nI n)])), (b1, oI cI 60 P), (b2, oI cI 60 L)] H := hP
              have hD : va_D A [(a0, .inr (2, [.ref a1, .int (nI (ff_sn P n base bw)), .int (((ff_D P n base bw n).1 0)), .ref a2, .ref a3, .ref a4])), (a1, oI cI 60 (upd S9 q (nI (ff_ch (ff_D P n base bw n).2.2 q 0)))), (a2, oI cI 61 LC), (a3, oI cI 61 FW), (a4, oI cI 61 FE), (b0, .inr (1, [.ref b1, .ref b2, .int (nI n)])), (b1, oI cI 60 P), (b2, oI cI 60 L)] := hD
              refine lv_aload_n hx hb dX2_part_92 rfl (lv_at hl 0 rfl) ?_
              refine gf_X2_21 hx hb hg hown hK hP 0 rfl rfl dX2_part_93 ?_
              refine lv_iload hx hb dX2_part_96 (lv_at hl 4 rfl) ?_
              refine ald hx hb hK hP 4 rfl rfl (by omega) dX2_part_98 ?_
              refine lv_asi (y := nI (ff_ch (ff_D P n base bw n).2.2 (q + 1) 0)) ((hdk _ (by omega) (by omega)).2.2 hlt9) ?_
              refine lv_istore (lv' := [(4, .int (nI (ff_ch (ff_D P n base bw n).2.2 (q + 1) 0))), (0, .ref a0), (1, .ref b0), (2, .int base), (3, .int bw), (5, .int (nI q))]) hx hb dX2_part_99 hl (by decide) rfl (fun ls hl => ?_)
              refine lv_iinc (v := nI (q + 1)) (lv' := [(5, .int (nI (q + 1))), (4, .int (nI (ff_ch (ff_D P n base bw n).2.2 (q + 1) 0))), (0, .ref a0), (1, .ref b0), (2, .int base), (3, .int bw)]) hx hb dX2_part_101 hl (k := 5) rfl (nI_1 _) (by decide) rfl (fun ls hl => ?_)
              refine lv_goto (tgt := 74) hx hb dX2_part_104 (by decide) ?_
              exact ih_74 (q + 1) (_) _ _ _ (by omega) (fun t ht => by by_cases h : t = q <;> first | (subst h; exact pk_us) | (rw [pk_un h]; exact he t (by omega))) (by omega) hP hD hS (lv_sub hl [2, 3, 4, 5, 1, 0] rfl)
        exact lp_74 (_ + 1) (0) (ST) _ _ _ (Nat.zero_le _) (fun t h => absurd h (Nat.not_lt_zero _)) (Nat.lt_succ_self _) hP hD hS (lv_sub hl [2, 3, 4, 5, 1, 0] rfl)
      · skip
        have c30 := mt (ff_dm (by omega)).mpr c30
        obtain ⟨d9, rfl⟩ : ∃ d9, d = d9 + 1 := ⟨d - 1, by omega⟩
        rw [show nI (d9 + 1) - nI 1 = nI d9 from pk_sub (by omega)] at hl
        refine lv_aload_n hx hb dX2_part_33 rfl (lv_at hl 0 rfl) ?_
        refine lv_aload_n hx hb dX2_part_34 rfl (lv_at hl 1 rfl) ?_
        refine lv_iload hx hb dX2_part_35 (lv_at hl 4 rfl) ?_
        refine lv_iload_n hx hb dX2_part_37 rfl (lv_at hl 2 rfl) ?_
        refine lv_iload_n hx hb dX2_part_38 rfl (lv_at hl 3 rfl) ?_
        refine Cv.callV (As := [.ref b0, .int (nI d9), .int base, .int bw]) (rest := []) (wr := []) (wn := (fun uw => [(a0, .inr (2, [.ref a1, .int z, .int w, .ref a2, .ref a3, .ref a4])), (a1, oI cI 60 ST), (a2, oI cI 61 (uw.1)), (a3, oI cI 61 (uw.2.1)), (a4, oI cI 61 (uw.2.2)), (b0, .inr (1, [.ref b1, .ref b2, .int (nI n)])), (b1, oI cI 60 P), (b2, oI cI 60 L)])) (cv_X2_30 hg ⟨Nat.le_of_ble_eq_true rfl, Nat.le_of_ble_eq_true rfl⟩) (k_X2_weighFrom l D cI a0 a1 a2 a3 a4 z w ST LC FW FE b0 b1 b2 n P L d9 base bw (by omega) hn) cx hK hP hD hA [0, 1, 2, 3, 4, 5, 6, 7] [] [0, 1, 2, 3, 4, 5, 6, 7] rfl rfl (by decide) (fun _ => rfl) (rq := 0) rfl rfl rfl hS rfl hl.1 rfl (Nat.le_of_ble_eq_true rfl) dX2_part_39 ⟨Nat.le_refl _, Nat.le_refl _⟩ (fun H locs uw p39 hP hD hS => ?_)
        refine lv_iinc (v := (nI d9 - nI 1)) (lv' := [(4, .int ((nI d9 - nI 1))), (0, .ref a0), (1, .ref b0), (2, .int base), (3, .int bw)]) hx hb dX2_part_42 hl (k := 4) rfl (by rw [Int32.sub_eq_add_neg]; rfl) (by decide) rfl (fun ls hl => ?_)
        refine lv_goto (tgt := 28) hx hb dX2_part_45 (by decide) ?_
        exact ih_28 (d9) (_) (_) (_) _ _ _ (by omega) (ff_Dok_d (by omega) hdk p39) (by omega) hP hD hS (lv_sub hl [1, 2, 3, 4, 0] rfl)
  exact lp_28 (_ + 1) (n) (_) (_) (_) _ _ _ (Nat.le_refl _) (ff_Dok_0 _ _ _) (Nat.lt_succ_self _) hP hD hS (lv_sub hl [1, 2, 3, 4, 0] rfl)
end
section
abbrev xIA : String := "java/lang/IllegalArgumentException"
abbrev xIS : String := "java/lang/IllegalStateException"
abbrev xAR : String := "java/lang/ArithmeticException"
abbrev xNm : List String := ["java/lang/RuntimeException", "java/lang/Exception"]
def ff_strs : List (Nat × String) := [(66, "no such pitch or length"), (73, "there are 60 notes"), (80, "there are not so many notes"), (86, "no such view"), (92, "no such view or item"), (98, "no such view or least length"), (108, "no such repeat or part of it"), (114, "no such view or length"), (124, "there are not so many items"), (128, "no items to set side by side"), (135, "no such notes"), (147, "no such form, note or part of it"), (159, "no such form or scale of lengths"), (161, "there is no motive"), (169, "no such key, head or note"), (174, "no such key or head"), (176, "below 0"), (181, "no such costs"), (188, "no such number")]
def ff_SR (U : State) : Prop := ∀ q ∈ ff_strs, ∃ sa, vk_R RX5 q.1 q.2 sa U
theorem ff_SR.warm {s U : State} (hW : s.WarmedH U.vm) (h : ff_SR s) : ff_SR U := fun q hq => by
  obtain ⟨sa, h1⟩ := h q hq
  exact ⟨sa, vk_R.warm hW h1⟩
theorem ff_SR.same {s U : State} (hv : U.vm = s.vm) (h : ff_SR s) : ff_SR U := fun q hq => by
  obtain ⟨sa, h1⟩ := h q hq
  exact ⟨sa, vk_R.same hv h1⟩
def ff_nb : List Cond := [.castable xIA xIA, .castable xIS xIS, .castable xAR xAR, .declares (Bundle.initS "java/lang/RuntimeException"), .declares (Bundle.initS "java/lang/Exception"), .declares (Bundle.initS Bundle.tN)]
def ff_NB (U : State) : Prop := (∀ w ∈ ff_nb, va_Nw w U) ∧ va_Nc xIS xIA U ∧ va_Nc xAR xIA U
theorem ff_NB.warm {s U : State} (hW : s.WarmedH U.vm) (h : ff_NB s) : ff_NB U := by
  obtain ⟨h1, h2, h3⟩ := h
  refine ⟨fun w hw => ?_, h2.moved hW.alike, h3.moved hW.alike⟩
  have hz := h1 w hw
  simp only [ff_nb, List.mem_cons, List.not_mem_nil, or_false] at hw
  rcases hw with rfl | rfl | rfl | rfl | rfl | rfl
  · exact va_Nw.warmC hW hz
  · exact va_Nw.warmC hW hz
  · exact va_Nw.warmC hW hz
  · exact va_Nw.warmD hW hz
  · exact va_Nw.warmD hW hz
  · exact va_Nw.warmD hW hz
theorem ff_nb_on : ∀ w ∈ ff_nb, w.onTables = true := by decide +kernel
theorem ff_NB.same {s U : State} (hv : s.vm = U.vm) (h : ff_NB s) : ff_NB U := ⟨fun w hw => va_Nw.same (ff_nb_on w hw) hv (h.1 w hw), h.2.1.moved (by rw [hv]; exact Vm.Alike.refl _), h.2.2.moved (by rw [hv]; exact Vm.Alike.refl _)⟩
def ff_X (A : Nat → Prop) (U : State) (H : Heap) : Prop := ff_SR U ∧ ff_NB U ∧ vx_Zq Bundle.tN "UNASSIGNED_STACK" Bundle.steD A U H ∧ vx_Zq Bundle.tN "SUPPRESSED_SENTINEL" Bundle.listD A U H
theorem ff_X.to {A B : Nat → Prop} {s U : State} {H : Heap} {locs : List Loc} (h : ff_X A s s.heap) (hS : va_S A s.heap H locs) (hW : s.WarmedH U.vm) (hAB : ∀ q, B q → A q) : ff_X B U H :=
  ⟨h.1.warm hW, h.2.1.warm hW, ((h.2.2.1.kept hS.2.1).moved hW.alike).narrow hAB, ((h.2.2.2.kept hS.2.1).moved hW.alike).narrow hAB⟩
theorem ff_X.same {A : Nat → Prop} {s U : State} {H : Heap} (hv : U.vm = s.vm) (h : ff_X A s H) : ff_X A U H :=
  ⟨h.1.same hv, h.2.1.same hv.symm, h.2.2.1.moved (by rw [hv]; exact Vm.Alike.refl _), h.2.2.2.moved (by rw [hv]; exact Vm.Alike.refl _)⟩
/-- what the tables say of throwing one of the three -/
def ff_E (ik ic : Nat) (cls : String) : Prop := Bundle.fit cls = true ∧ Cond.classLink RX5 ik cls ∈ GW ∧ Cond.initialized cls ∈ GW ∧ (∀ w ∈ (vx_atS RX5 ic cls xNm).filter goodWord, w ∈ lw_tbl) ∧ (∀ w ∈ (vx_atS RX5 ic cls xNm).filter (fun w => !goodWord w), w ∈ ff_nb) ∧ (∀ w ∈ Cond.classLink RX5 ik cls :: Cond.initialized cls :: vx_atS RX5 ic cls xNm, vx_ot w = true)
theorem ff_E_IA : ff_E 64 68 xIA := ⟨by decide +kernel, wd_ck_X5_64, gw_at 36 (by decide +kernel) (by decide +kernel), by decide +kernel, by decide +kernel, by decide +kernel⟩
theorem ff_E_IS : ff_E 71 75 xIS := ⟨by decide +kernel, wd_ck_X5_71, gw_at 37 (by decide +kernel) (by decide +kernel), by decide +kernel, by decide +kernel, by decide +kernel⟩
theorem ff_E_AR : ff_E 126 130 xAR := ⟨by decide +kernel, wd_ck_X5_126, gw_at 39 (by decide +kernel) (by decide +kernel), by decide +kernel, by decide +kernel, by decide +kernel⟩
/-- a method that writes its own cells, answers or throws -/
def Ct (l : Launch) (y : MethodName) (cc : ByteArray) (n : Nat) (k : Nat) (D : va_G) (tys : List (ClassId × FieldType)) (av : List Value) (W0 : va_W) {S : Type} (post : Int32 → S → Prop) (W1 : S → va_W) (bad : String → Prop) : Prop :=
  ∀ sz : Nat, vx_Met l y (ww y cc n (some .int)) (rr k 1 6) (va_Pc av (fun U => U.heap.size = sz ∧ va_P D vwCl W0 U.heap ∧ va_K D vwCl tys U ∧ va_D (fun _ => True) W0 ∧ ff_X (va_A W0 sz) U U.heap))
    (va_Qi post (fun u t => va_P D vwCl (W1 u) t.heap ∧ va_K D vwCl tys t ∧ va_D (va_A W0 sz) (W1 u)) (va_A W0 sz))
    (vx_X (S := Unit) (fun _ => True) (fun E _ t => bad E ∧ va_P D vwCl W0 t.heap ∧ va_K D vwCl tys t ∧ va_D (va_A W0 sz) W0) (va_A W0 sz)) 1 6 (va_A W0 sz)
theorem Ct.of {l : Launch} {y : MethodName} {cc : ByteArray} {n : Nat} {k : Nat} {D : va_G} {tys : List (ClassId × FieldType)} {av : List Value} {W0 : va_W} {S : Type} {post : Int32 → S → Prop} {W1 : S → va_W} {bad : String → Prop} {lv : List (Nat × Value)} (hl : l.stackTraces = false) (hk : 6 ≤ k) (hy : plainName y.cls = true) (ho : y.cls = RX5) (hn : (lg_sl av).length ≤ n) (hlv : lv_args 0 av = lv)
    (body : ∀ (p : Program) (e : Env) (s : State) (m : MethodId) (args : Array Value) (below : List Frame) (meth : Method) (c : Code) (Q : State → Prop) (A : Nat → Prop), CallFix p m c cc n s args GW RX5 → va_K D vwCl tys s → va_P D vwCl W0 s.heap → va_D A W0 → (∀ q, s.heap.size ≤ q → A q) →
      (∀ (H : Heap) (locs : List Loc) (pc : Nat) (ls : Array Slot) (x : Int32) (u : S), post x u → va_P D vwCl (W1 u) H → va_D A (W1 u) → va_S A s.heap H locs → decode cc pc = .ok (.ireturn, 1) → W p l e (rr k 1 6) s m args below meth c H locs 0 0 Q (F0 m pc ls [.int x])) →
      (∀ (H : Heap) (locs : List Loc) (pc : Nat) (ls : Array Slot) (ik is ic : Nat) (cls text : String), ff_E ik ic cls → (is, text) ∈ ff_strs → bad cls → va_P D vwCl W0 H → va_S A s.heap H locs → ls.size = n → decode cc pc = .ok (.new ik, 3) → decode cc (pc + 3) = .ok (.dup, 1) → decode cc (pc + 4) = .ok (.ldc is, 2) → decode cc (pc + 6) = .ok (.invokespecial ic, 3) → decode cc (pc + 9) = .ok (.athrow, 1) → W p l e (rr k 1 6) s m args below meth c H locs 0 0 Q (F0 m pc ls [])) →
      ∀ ls, lv_has ls n lv → W p l e (rr k 1 6) s m args below meth c s.heap [] 0 0 Q (F0 m 0 ls [])) : Ct l y cc n k D tys av W0 post W1 bad := by
  intro sz
  refine vx_ofW (cc := cc) (maxL := n) (ret := some .int) hy rfl ?_
  intro p e s m args below meth c s₁ B hml htb hv
  obtain ⟨rfl, hsz, hP, hK, hD0, hX⟩ := hv
  subst hsz
  have hts := atoms_spec (ws := ww y cc n (some .int)) B.pre
  have hg : ∀ w ∈ GW, w.before av.toArray s = true := fun w hw => hts w (List.mem_cons_of_mem _ hw)
  have hown : s.vm.findClass RX5 = some m.cls := ho ▸ findClass_of_methodNamed B.named
  have hlv0 := lv_entry av (n := n) hn
  rw [lg_entry_eq]
  generalize (lg_sl av ++ List.replicate (n - (lg_sl av).length) Slot.unset).toArray = ls at hlv0 ⊢
  rw [hlv] at hlv0
  have hlk := B.notSynchronized
  have hD := hD0.self (sz := s.heap.size)
  refine body p e s m _ below meth c _ (va_A W0 s.heap.size) ⟨B.exec, B.bytes, hml, hown, hg⟩ hK hP hD (fun q h => Or.inr h) (fun H locs pc ls x u hu hP1 hD1 hS hd => ?_) (fun H locs pc ls ik is ic cls text hE hs hb hP1 hS hls d0 d3 d4 d6 d9 => ?_) ls hlv0
  · refine vx_ret (W.widen (k := 1) (n := 6) (by omega) (by omega) ?_)
    exact W.zret (v := x) B.exec B.bytes B.returns (vp_nar_int x) (fun t ht hW => ⟨⟨x, u, rfl, hu, by rw [ht]; exact hP1, va_K.moved hW.alike hK, hD1⟩, hS.F ht⟩) hS.2.2 hd
  · obtain ⟨e1, e2, e3, e4, e5, e6⟩ := hE
    obtain ⟨sa, hsa⟩ := hX.1 (is, text) hs
    refine vx_throwS (names := xNm) (A := va_A W0 s.heap.size) B.exec B.bytes hl hown e1 (by decide +kernel) (hg _ e2) (hg _ e3) hsa (vx_hat (fun w hw => hg w (List.mem_filter.mpr ⟨e4 w hw, (List.mem_filter.mp hw).2⟩)) e5 (fun w hw => va_Nw.use (ff_nb_on w hw) (hX.2.1.1 w hw))) e6 hX.2.2.1 hX.2.2.2 hS (hls.trans hml.symm) d0 d3 d4 d6 d9 (fun x hx => (htb x hx).elim) ?_ ?_ (Nat.le_refl _) (Nat.le_refl _) hlk ?_ hS.2.2 (Nat.le_refl _) (Nat.le_refl _)
    · show 2 + 3 < k
      omega
    · show 0 + (13 * (2 + 1) + 43) ≤ 32 * k
      omega
    · intro t hvm hz hq
      exact ⟨(), trivial, ⟨hb, hP1.kept (fun i q h => hq q.1 (hP1 i q h).lt), va_K.moved hvm hK, hD⟩, ⟨Nat.le_trans hS.1 hz, fun q h1 h2 => (hq q (Nat.lt_of_lt_of_le h1 hS.1)).trans (hS.2.1 q h1 h2)⟩⟩
section CT
variable {p : Program} {l : Launch} {e : Env} {R : Room} {s : State} {m : MethodId} {args : Array Value} {below : List Frame} {meth : Method} {c : Code} {H : Heap} {locs : List Loc} {cells slots : Nat} {Q : State → Prop}
variable {cc bytes : ByteArray} {pc nL maxL ix nn k : Nat} {ls : Array Slot} {rest st As : List Value} {D : va_G} {A : Nat → Prop} {b : Nat} {tys : List (ClassId × FieldType)} {ws wc wr : va_W} {own C : String} {y : MethodName}
theorem Ct.callV {S : Type} {post : Int32 → S → Prop} {W1 wn : S → va_W} {bad : String → Prop} (cw : CallW R s args own C ix y bytes maxL (some .int) (ww y bytes maxL (some .int)) (rr k 1 6) 1 6 nn) (hM : Ct l y bytes maxL k D tys (.ref b :: As) wc post W1 bad) (cx : CallFix p m c cc nL s args GW own) (hK : va_K D vwCl tys s) (hX : ff_X A s s.heap) (hP : va_P D vwCl ws H) (hD : va_D A ws) (hA : ∀ q, s.heap.size ≤ q → A q) (isC isR isN : List Nat) (hC : isC.map (fun i => ws[i]?) = wc.map some) (hRr : isR.map (fun i => ws[i]?) = wr.map some) (hnd : va_nd isC = true ∧ va_nd isR = true ∧ va_nd isN = true ∧ ∀ i ∈ isR, i ∉ isC) (hN : ∀ u, isN.map (fun i => (wr ++ W1 u)[i]?) = (wn u).map some) (hN0 : isN.map (fun i => (wr ++ wc)[i]?) = ws.map some) {rq rc : Nat} {fs : List Value} {qc : vw_C} (hr1 : wc[rq]? = some (b, .inr (rc, fs))) (hr2 : vwCl[rc]? = some qc) (hr3 : qc.1 = C) (hS : va_S A s.heap H locs) (hn : As.length = nn) (hls : ls.size = nL) (hst : st = As.reverse ++ .ref b :: rest) (hW : (rest.map fun v => v.category).sum ≤ 8) (hdg : decode cc pc = .ok (.invokevirtual ix, 3)) (hf : cells + 1 ≤ R.cells ∧ slots + 6 ≤ R.slots)
    (kx : ∀ (E : String) (ce : Cell) (q9 : Addr) (H1 : Heap) (locs1 : List Loc), bad E → va_P D vwCl ws H1 → va_D A ws → va_S A s.heap H1 locs1 → H1[q9]? = some ce → ce.vm = .none → s.vm.findClass E = some ce.cls → vx_W p l e R s m args below meth c H1 locs1 (cells + 1) (slots + 6) Q (F0 m pc ls rest) q9)
    (kk : ∀ (H1 : Heap) (locs1 : List Loc) (r : Int32) (u : S), post r u → va_P D vwCl (wn u) H1 → va_D A (wn u) → va_S A s.heap H1 locs1 → W p l e R s m args below meth c H1 locs1 (cells + 1) (slots + 6) Q (F0 m (pc + 3) ls (.int r :: rest))) : W p l e R s m args below meth c H locs cells slots Q (F0 m pc ls st) := by
  have hPc := hP.sub isC (sub_of_map hC)
  have hDc := hD.sub isC hnd.1 hC
  have hFc := va_free (wc := wc) hD hS hA isC hC
  refine vx_calli (vx_runV (As := As) (rest := rest) cx (hM H.size) cw ⟨fun a U g mk q => ⟨q.1, q.2.1, q.2.2.1, va_K.moved (u := U) (U := U.calling g mk a) (Vm.Alike.refl U.vm) q.2.2.2.1, q.2.2.2.2.1, ff_X.same (s := U) rfl q.2.2.2.2.2⟩, ?_, fun U hU hW => ⟨rfl, by rw [hU], by rw [hU]; exact hPc, va_K.moved hW.alike hK, hDc.weaken (fun _ _ _ _ => trivial), by rw [hU]; exact hX.to hS hW hFc⟩⟩ rfl hn hls hst (lv_room hW) hdg hf) hS (fun q _ h => hFc q h) hFc (fun q _ h => hFc q h) (fun E ce q9 u t H1 locs1 ht hvm hpx hB hz1 hk1 hS1 h7 h8 h9 => ?_) (fun r u t H1 locs1 ht hvm hw hB hz1 hk1 hS1 => ?_)
  · obtain ⟨cell, h1, h2, h3⟩ := va_recv hK hPc hr2 hr1
    exact ⟨cell, h1, h2, hr3 ▸ h3⟩
  · obtain ⟨hb, hP1, -, hD1⟩ := hB
    rw [ht] at hP1
    obtain ⟨h1, h2⟩ := join_to (W1 := fun _ : Unit => wc) (wn := fun _ => ws) (u := ()) hP hD isC isR isN hC hRr hnd.2.1 hnd.2.2.2 hN0 hnd.2.2.1 hk1 hFc hP1 hD1
    exact kx E ce q9 H1 locs1 hb h1 h2 hS1 h7 h8 h9
  · obtain ⟨hP1, -, hD1⟩ := hB
    rw [ht] at hP1
    obtain ⟨h1, h2⟩ := join_to hP hD isC isR isN hC hRr hnd.2.1 hnd.2.2.2 (hN u) hnd.2.2.1 hk1 hFc hP1 hD1
    exact kk H1 locs1 r u hw h1 h2 hS1
end CT
end
