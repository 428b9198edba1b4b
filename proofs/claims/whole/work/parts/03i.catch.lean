/-! ===== an exception is caught in the frame that called ===== -/
section XCT
/-- one row of a table that covers the place and names a linked kind: taken, or passed -/
theorem xc_row {Q : Handler → Pre} {E : CtlPost} {e : Env} {d : Bool} {acts : List Action} {S : State} {f : JFrame} {a : Addr} {x : ExceptionTableEntry} {t : List ExceptionTableEntry} {k : ClassId} {cell : Cell} (hx : covers x f.pc = true) (h0 : x.catchType ≠ 0)
    (hl : S.vm.ClassLinks e.platform f.method.cls x.catchType k) (hcell : S.heap[a]? = some cell) (hobj : ∀ j, cell.vm ≠ .statics j) (hk : ∃ q, S.vm.classes[cell.cls]? = some q) (hc : ∃ q, S.vm.classes[k]? = some q) :
    (S.vm.assignable cell.cls k = true → (wp (findHandler.go f a (x :: t)) Q E e d acts S ↔ Q (.found x.handlerPc) d acts (S.setVm (S.vm.noted f.method.cls x.catchType (.cls k))))) ∧
    (S.vm.assignable cell.cls k = false → (wp (findHandler.go f a (x :: t)) Q E e d acts S ↔ wp (findHandler.go f a t) Q E e d acts (S.setVm (S.vm.noted f.method.cls x.catchType (.cls k))))) := by
  simp only [covers] at hx
  obtain ⟨ha, ht⟩ := (resolveClass_links e.toSetting hl).op (op := VmOp.resolveClass f.method.cls x.catchType) rfl
  have hal : S.vm.Alike (S.vm.noted f.method.cls x.catchType (.cls k)) := (Vm.Alike.refl S.vm).noted _ _ _
  obtain ⟨k1, hk1⟩ := hk
  obtain ⟨k2, hk2⟩ := hc
  obtain ⟨k1', hk1', -⟩ := hal.2.2 _ _ hk1
  obtain ⟨k2', hk2', -⟩ := hal.2.2 _ _ hk2
  constructor
  · intro hf
    have hf' : (S.vm.noted f.method.cls x.catchType (.cls k)).assignable cell.cls k = true := by rw [hal.assignable]; exact hf
    simp [findHandler.go, hx, h0, ha, ht, hcell, hobj, hk1', hk2', hf', VmOp.dirties, VmOp.acts]
  · intro hf
    have hf' : (S.vm.noted f.method.cls x.catchType (.cls k)).assignable cell.cls k = false := by rw [hal.assignable]; exact hf
    simp [findHandler.go, hx, h0, ha, ht, hcell, hobj, hk1', hk2', hf', VmOp.dirties, VmOp.acts]
/-- the search goes past rows that name other kinds to the one that takes it -/
theorem xc_find {e : Env} {s : State} {f : JFrame} {a : Addr} {cell : Cell} {x : ExceptionTableEntry} {suf : List ExceptionTableEntry} {kT : ClassId} (hobj : ∀ j, cell.vm ≠ .statics j) (hk0 : ∃ q, s.vm.classes[cell.cls]? = some q) (hx : covers x f.pc = true) (h0 : x.catchType ≠ 0) (hl : s.vm.ClassLinks e.platform f.method.cls x.catchType kT) (hfit : s.vm.assignable cell.cls kT = true) :
    ∀ (pre : List ExceptionTableEntry), (∀ y ∈ pre, covers y f.pc = false ∨ (y.catchType ≠ 0 ∧ ∃ k, s.vm.ClassLinks e.platform f.method.cls y.catchType k ∧ s.vm.assignable cell.cls k = false)) → ∀ (S : State), s.WarmedH S.vm → S.heap[a]? = some cell →
      ∃ vm', s.WarmedH vm' ∧ ∀ (Q : Handler → Pre) (E : CtlPost) (d : Bool) (acts : List Action), wp (findHandler.go f a (pre ++ x :: suf)) Q E e d acts S ↔ Q (.found x.handlerPc) d acts (S.setVm vm') := by
  obtain ⟨q0, hk0⟩ := hk0
  have step : ∀ (S : State), s.WarmedH S.vm → ∀ (y : ExceptionTableEntry) (k : ClassId), s.vm.ClassLinks e.platform f.method.cls y.catchType k → (∃ q, S.vm.classes[cell.cls]? = some q) ∧ (∃ q, S.vm.classes[k]? = some q) ∧ S.vm.ClassLinks e.platform f.method.cls y.catchType k ∧ s.WarmedH (S.vm.noted f.method.cls y.catchType (.cls k)) := by
    intro S hW y k hk
    obtain ⟨q0', hq0', -⟩ := hW.alike.2.2 _ _ hk0
    obtain ⟨dk, _, _, kt, hd, _, _, _, _, hkt, _, hopn⟩ := hk.here
    obtain ⟨kt', hkt', -⟩ := hW.alike.2.2 _ _ hkt
    exact ⟨⟨q0', hq0'⟩, ⟨kt', hkt'⟩, hW.classLinks hk, hW.noted hd hopn (State.rightAt_cls hk)⟩
  intro pre
  induction pre with
  | nil =>
    intro _ S hW hcell
    obtain ⟨a1, a2, a3, a4⟩ := step S hW x kT hl
    exact ⟨_, a4, fun Q E d acts => (xc_row hx h0 a3 hcell hobj a1 a2).1 (by rw [hW.alike.assignable]; exact hfit)⟩
  | cons y ys ih =>
    intro hp S hW hcell
    have hrest := fun z hz => hp z (List.mem_cons_of_mem _ hz)
    by_cases hcov : covers y f.pc = true
    · rcases hp y List.mem_cons_self with h | ⟨hy0, k, hyl, hno⟩
      · rw [h] at hcov; cases hcov
      · obtain ⟨a1, a2, a3, a4⟩ := step S hW y k hyl
        obtain ⟨vm', hW', hq⟩ := ih hrest (S.setVm (S.vm.noted f.method.cls y.catchType (.cls k))) a4 hcell
        refine ⟨vm', hW', fun Q E d acts => ?_⟩
        rw [List.cons_append, (xc_row hcov hy0 a3 hcell hobj a1 a2).2 (by rw [hW.alike.assignable]; exact hno)]
        exact hq Q E d acts
    · obtain ⟨vm', hW', hq⟩ := ih hrest S hW hcell
      refine ⟨vm', hW', fun Q E d acts => ?_⟩
      rw [List.cons_append, W.findHandler_go_skip (by simpa using hcov)]
      exact hq Q E d acts
variable {p : Program} {l : Launch} {e : Env} {R : Room} {s : State} {m : MethodId} {args : Array Value} {below : List Frame} {meth : Method} {c : Code} {T : State} {locs : List Loc} {cells slots : Nat}
theorem xc_caught (X : Stand p l e R s m args below meth c T locs cells slots) (a : Addr) {g : JFrame} (hg : g.method = m) {cell : Cell} (hcell : T.heap[a]? = some cell) (hv : cell.vm = .none) (hk0 : ∃ q, s.vm.classes[cell.cls]? = some q)
    {pre suf : List ExceptionTableEntry} {x : ExceptionTableEntry} (hsplit : c.exceptionTable.toList = pre ++ x :: suf) (hpass : ∀ y ∈ pre, covers y g.pc = false ∨ (y.catchType ≠ 0 ∧ ∃ k, s.vm.ClassLinks e.platform m.cls y.catchType k ∧ s.vm.assignable cell.cls k = false))
    (hx : covers x g.pc = true) (h0 : x.catchType ≠ 0) {kT : ClassId} (hl : s.vm.ClassLinks e.platform m.cls x.catchType kT) (hfit : s.vm.assignable cell.cls kT = true) :
    ∃ vm', Stand p l e R s m args below meth c (T.setVm vm') locs cells slots ∧ ∀ target, Steps p.tables e below ((T.setVm vm').setTop { g with pc := x.handlerPc, stack := [.ref a] }) target → Steps p.tables e below ((T.setTop g).pushFrame (.throwing a)) target := by
  subst hg
  obtain ⟨vm', hW', hq⟩ := xc_find (e := e) (f := g) (a := a) (suf := suf) (fun j hj => by rw [hv] at hj; cases hj) hk0 hx h0 hl hfit pre hpass ((T.setTop g).pushFrame (.throwing a)) X.warmed hcell
  refine ⟨vm', X.noted hW', fun target hrest => ?_⟩
  have hat : At T g.method c below := X.here
  have hfind : ∀ (Q : Handler → Pre) (E : CtlPost) (d : Bool) (acts : List Action), wp (findHandler g a) Q E e d acts ((T.setTop g).pushFrame (.throwing a)) ↔ Q (.found x.handlerPc) d acts (((T.setTop g).pushFrame (.throwing a)).setVm vm') := by
    intro Q E d acts
    rw [W.findHandler_eq (s := (T.setTop g).pushFrame (.throwing a)) (meth := meth) (code := c) (show ((T.setTop g).pushFrame (.throwing a)).vm.method? g.method = some meth from X.method') X.code, hsplit]
    exact hq Q E d acts
  have hstep : (stepThrowing e ((T.setTop g).pushFrame (.throwing a)) a (.java g :: T.frames.tail)).1 = (((T.setTop g).pushFrame (.throwing a)).setVm vm').setFrames (.java { g with pc := x.handlerPc, stack := [.ref a] } :: T.frames.tail) := by
    simp only [stepThrowing, searchFrame, vmDo]
    generalize hr : Sem.go _ e false [] ((T.setTop g).pushFrame (.throwing a)) = res
    obtain ⟨as, rfl, ha⟩ := Sem.eq_ok_of hr (a := Handler.found x.handlerPc) (s' := ((T.setTop g).pushFrame (.throwing a)).setVm vm') (acts' := []) (by simp [hfind _ _ _ _])
    rfl
  obtain ⟨hgo, hw⟩ := hat.throwing a
  refine Steps.head hgo hw ?_
  rw [stepThread_throwing (frames_entered hat.top _), hstep]
  obtain ⟨g₀, hg0⟩ := Option.isSome_iff_exists.mp hat.top
  obtain ⟨r, hr⟩ := State.topJava?_eq_some.mp hg0
  have hr' : (T.setVm vm').frames = .java g₀ :: r := hr
  have key : ∀ (F G : List Frame), ((T.setFrames F).setVm vm').setFrames G = (T.setVm vm').setFrames G := by
    intro F G
    have h1 : (T.setFrames F).setVm vm' = (T.setVm vm').setFrames F := rfl
    rw [h1, State.setFrames_setFrames]
  rw [State.setTop_of_frames _ hr'] at hrest
  rw [State.pushFrame, State.setTop_of_frames _ hr, State.setFrames_setFrames, key, hr, List.tail_cons]
  exact hrest
end XCT
