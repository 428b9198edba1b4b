/-! ===== calls ===== -/
theorem xcw_spec {M : Nat} {args : Array Value} {s : State} (h : (xcw M).before args s = true) : ∃ mk meth c, s.methodNamed? (xy M) = some mk ∧ s.vm.method? mk = some meth ∧ meth.code = some c ∧ c.code = xcode M ∧ c.maxLocals = xmaxL M ∧ meth.sig.returnType = xret M ∧ meth.locks = false ∧ xtb M c ∧ parseMethodDescriptor (xy M).desc = some meth.sig := by
  unfold xcw at h
  cases hh : xhh M with
  | nil =>
    rw [hh] at h
    obtain ⟨mk, hn⟩ := Cond.code_named h
    obtain ⟨meth, c, h1, h2, h3, h4, h5, h6, h7, h8⟩ := Cond.code_spec hn h
    refine ⟨mk, meth, c, hn, h1, h2, h3, h4, h5, h6, ?_, h8⟩
    unfold xtb
    rw [hh]
    simpa using h7
  | cons a b =>
    rw [hh] at h
    obtain ⟨mk, meth, c, hn, h1, h2, h3, h4, h5, h6, h7, h8⟩ := Cond.codeWith_spec h
    refine ⟨mk, meth, c, hn, h1, h2, h3, h4, h6, h7, ?_, h8⟩
    unfold xtb
    rw [hh, ← h5, List.map_map]
    have : (fun q : ExceptionTableEntry => q) = ((fun q : Nat × Nat × Nat × Nat => ({ startPc := q.1, endPc := q.2.1, handlerPc := q.2.2.1, catchType := q.2.2.2 } : ExceptionTableEntry)) ∘ fun h => (h.startPc, h.endPc, h.handlerPc, h.catchType)) := rfl
    rw [← this, List.map_id']
def xMet (G : xG) (X : State → Prop) (l : Launch) (M : Nat) (As : List Value) (h : xH) (o : xR) : Prop :=
  MetFree l (xy M) (headSpec (xcw M :: xT) (xRm G M h)) (fun a U => a = As.toArray ∧ U.heap.size = h.1 ∧ xRel G h U.heap ∧ xC G U ∧ X U) (fun _ _ _ _ _ => True) (fun _ st oc t => xQ G st h o oc t)
theorem xargs_mem {As : List Value} (hc : ∀ v ∈ As, v.category = 1) : ∀ (k i : Nat) (v : Value), As[i]? = some v → (k + i, v) ∈ lv_args k As := by
  induction As with
  | nil => intro k i v h; simp at h
  | cons a t ih =>
    intro k i v h
    have ha : ¬ a.category = 2 := by have := hc a List.mem_cons_self; omega
    simp only [lv_args, if_neg ha]
    cases i with
    | zero => simp at h; subst h; exact List.mem_cons_self
    | succ j =>
      simp at h
      have := ih (fun v hv => hc v (List.mem_cons_of_mem _ hv)) (k + 1) j v h
      rw [show k + (j + 1) = k + 1 + j by omega]
      exact List.mem_cons_of_mem _ this
theorem xargs_sl {As : List Value} (hc : ∀ v ∈ As, v.category = 1) : (lg_sl As).length = As.length := by
  induction As with
  | nil => rfl
  | cons a t ih =>
    have ha : ¬ a.category = 2 := by have := hc a List.mem_cons_self; omega
    have := ih (fun v hv => hc v (List.mem_cons_of_mem _ hv))
    simp only [lg_sl, List.flatMap_cons, if_neg ha] at this ⊢
    simp [this]
theorem xLoc_entry {M : Nat} {As : List Value} (hc : ∀ v ∈ As, v.category = 1) (hn : As.length ≤ xmaxL M) : xLoc ((lg_sl As ++ List.replicate (xmaxL M - (lg_sl As).length) Slot.unset).toArray) (xmaxL M) (xpad M As) := by
  have h := lv_entry As (n := xmaxL M) (by rw [xargs_sl hc]; exact hn)
  refine ⟨h.1, h.2.1, by simp [xpad]; omega, fun i v hi => ?_⟩
  have hi2 : As[i]? = some v := by
    unfold xpad at hi
    rw [List.getElem?_append] at hi
    split at hi
    · simpa using hi
    · rw [List.getElem?_replicate] at hi
      split at hi <;> simp at hi
  have := h.2.2 (0 + i, v) (xargs_mem hc 0 i v hi2)
  simp only [Nat.zero_add] at this
  exact ⟨this, hc v (List.mem_of_getElem? hi2)⟩
/-- a walk of a body is a contract of the method -/
theorem xMet_of {G : xG} {X : State → Prop} {l : Launch} {M : Nat} {As : List Value} {h : xH} {o : xR} (hpl : plainFor (xy M) = true) (how : xown (xoc M) = (xy M).cls) (hfr : 12 ≤ xfr M ∧ 400 ≤ xlo M) (hc : ∀ v ∈ As, v.category = 1) (hn : As.length ≤ xmaxL M) (k : xP G X l M 0 (xpad M As) [] h o) : xMet G X l M As h o := by
  refine MetFree.of_bodySF (code := xcode M) (maxLocals := xmaxL M) (ret := xret M) hpl ?_ ?_
  · intro args s m hp hm
    obtain ⟨mk, meth, c, h0, h1, h2, h3, h4, h5, h6, -, -⟩ := xcw_spec (atoms_spec (ws := xcw M :: xT) hp _ List.mem_cons_self)
    cases hm.symm.trans h0
    exact ⟨meth, c, h1, h2, h3, h4, h5, h6⟩
  · intro p e s m args below meth c s₁ B hml hP _
    obtain ⟨rfl, hsz, hR, hC, hX⟩ := hP
    have hts := atoms_spec (ws := xcw M :: xT) B.pre
    obtain ⟨mk, meth2, c2, h0, h1, h2, h3, h4, h5, h6, h7, -⟩ := xcw_spec (hts _ List.mem_cons_self)
    cases B.named.symm.trans h0
    cases B.method.symm.trans h1
    have hcc : c2 = c := Option.some.inj (h2.symm.trans (Stand.of_body B).code)
    subst hcc
    have hh0 : s₁.heap = s.heap := by rw [B.state]; rfl
    have CB : xB G X M p s m As.toArray meth c2 := ⟨B.exec, B.bytes, B.returns, hml, by rw [how]; exact findClass_of_methodNamed B.named, fun w hw => hts w (List.mem_cons_of_mem _ hw), B.notSynchronized, (name_of_methodNamed B.named B.method).1, h7, hC, hX, hfr.1, hfr.2⟩
    have Z : xZ G s h h s.heap [] := ⟨⟨Nat.le_refl _, Nat.le_refl _, hR.2.1.1, hsz⟩, hR.2.2.1, (fun z hz => nomatch hz), hR⟩
    have K := k p e s m As.toArray below meth c2 s.heap [] _ h CB Z (xLoc_entry hc hn)
    rw [Nat.sub_self, Nat.sub_self] at K
    obtain ⟨t, a1, o2, b1, b2, b3⟩ := K s₁ hh0 (Stand.of_body B)
    refine ⟨t, o2, ?_, b1, b2, b3⟩
    rw [lg_entry_eq]
    exact a1
section XK
variable {G : xG} {X : State → Prop} {l : Launch} {R : Room} {p : Program} {e : Env} {below : List Frame} {s : State} {sargs : Array Value} {m : MethodId} {meth : Method} {c : Code}
/-- the call itself: from the callee's frame to behind it, or to its exception above the caller's frame -/
theorem xk_back {M : Nat} {As : List Value} {h : xH} {o : xR} (hM : xMet G X l M As h o) (hC : ∀ U : State, s.WarmedH U.vm → xC G U ∧ X U)
    (hws : ∀ w ∈ xcw M :: xT, ∀ a' U, s.WarmedH U.vm → w.before a' U = true) (hini : ∀ a' U, s.WarmedH U.vm → (Cond.initialized (xy M).cls).before a' U = true)
    {U : State} {Ls : List Loc} {c0 s0 : Nat} {g : JFrame} {ig : Instr} {mk : MethodId} (Y : Stand p l e R s m sargs below meth c U Ls c0 s0) (hg : g.method = m) (hsize : g.locals.size = c.maxLocals) (hdg : decode c.code g.pc = .ok (ig, 3))
    (hframes : xfr M + 1 ≤ R.frames) (hlocals : 8 + (xmaxL M + 11) + xlo M ≤ R.locals) (hcells : c0 + (xRm G M h).cells ≤ R.cells) (hslots : s0 + (xRm G M h).slots ≤ R.slots)
    (hW : 2 * g.monitorRoom + (g.stack.map fun v => v.category).sum ≤ 8) (hn : U.methodNamed? (xy M) = some mk) (hsz : U.heap.size = h.1) (hR : xRel G h U.heap) :
    match o with
    | (.inl v, h1) => ∃ (U' : State) (L : List Loc), Stand p l e R s m sargs below meth c U' (Ls ++ L) (c0 + (h1.1 - h.1)) (s0 + (h1.2.1 - h.2.1)) ∧ (h.1 ≤ h1.1 ∧ h.2.1 ≤ h1.2.1) ∧ xRel G h1 U'.heap ∧ (∀ q ∈ L, G.2.2.2.1.1 ≤ q.base) ∧ Steps p.tables e below (doInvoke e (U.setTop g) [] mk As.toArray).1 (U'.setTop { g with pc := g.pc + 3, stack := v.toList ++ g.stack })
    | (.inr E, h1) => ∃ (U' : State) (L : List Loc) (q : Addr) (ce : Cell), Stand p l e R s m sargs below meth c U' (Ls ++ L) (c0 + (h1.1 - h.1)) (s0 + (h1.2.1 - h.2.1)) ∧ (h.1 ≤ h1.1 ∧ h.2.1 ≤ h1.2.1) ∧ xRel G h1 U'.heap ∧ (∀ q ∈ L, G.2.2.2.1.1 ≤ q.base) ∧ U'.heap[q]? = some ce ∧ ce.vm = .none ∧ s.vm.findClass (xEn E) = some ce.cls ∧ Steps p.tables e below (doInvoke e (U.setTop g) [] mk As.toArray).1 ((U'.setTop g).pushFrame (.throwing q)) := by
  have h1 : (headSpec (xcw M :: xT) (xRm G M h)).pre.before As.toArray U = true := atoms_intro fun w hw => hws w hw _ _ Y.warmed
  have h2 : (xcw M).before As.toArray U = true := hws _ List.mem_cons_self _ _ Y.warmed
  have h3 : (Cond.initialized (xy M).cls).before As.toArray U = true := hini _ _ Y.warmed
  obtain ⟨mk2, methY, cY, hn2, hmY, hcY, -, hlY, -, -, -, -⟩ := xcw_spec h2
  cases hn.symm.trans hn2
  obtain ⟨kY, hkY, -⟩ := className_of_methodNamed hn
  have hinitY : kY.init = .initialized := Cond.initialized_spec (findClass_of_methodNamed hn) hkY h3
  have hat : At U g.method c below := by rw [hg]; exact Y.here
  have hCU := hC U Y.warmed
  have hPc : (fun (a : Array Value) (U : State) => a = As.toArray ∧ U.heap.size = h.1 ∧ xRel G h U.heap ∧ xC G U ∧ X U) As.toArray (U.calling g mk As.toArray) := by
    refine ⟨rfl, hsz, hR, ?_⟩
    exact hC (U.calling g mk As.toArray) Y.warmed
  have happ : (headSpec (xcw M :: xT) (xRm G M h)).appliesLoose (xy M) e.platform (U.calling g mk As.toArray) = true :=
    Spec.appliesLoose_calling (g := g) hat hdg hn hkY hinitY
      (Y.room_calling (g := g) (R' := (headSpec (xcw M :: xT) (xRm G M h)).room) hsize hmY hcY hframes (by rw [hlY]; show _ ≤ _; have : (headSpec (xcw M :: xT) (xRm G M h)).room.locals = xlo M := rfl; omega) hcells hslots) h1
  obtain ⟨mid, hmid⟩ := hat.above
  have hfr : (U.setTop g).frames = (.java g :: mid) ++ below := by rw [State.frames_setTop' g hat.top, hmid]; rfl
  obtain ⟨oc, s₂, hsteps, -, hend, hq⟩ := Steps.callFree hM p Y.admits Y.cas Y.clock (acts := []) hfr happ hPc trivial
  have hq' : xQ G (U.calling g mk As.toArray) h o oc s₂ := hq
  rw [State.frames_setTop' g hat.top] at hend
  obtain ⟨g₀, hg0⟩ := Option.isSome_iff_exists.mp hat.top
  obtain ⟨r, hr⟩ := State.topJava?_eq_some.mp hg0
  have hr' : (({ U with heap := s₂.heap, slotsUsed := s₂.slotsUsed } : State).setVm s₂.vm).frames = .java g₀ :: r := hr
  obtain ⟨v | E, hh1⟩ := o
  · obtain ⟨rfl, hmono, hR2, L, hfe, hL⟩ := hq'
    obtain ⟨⟨v', hv'⟩, hW₂, e2, q2, q3, q4, q5, q6⟩ := id hfe
    cases hv'
    have e3 : s₂ = ({ (U.calling g mk As.toArray).setFrames s₂.frames with heap := s₂.heap, slotsUsed := s₂.slotsUsed } : State).setVm s₂.vm := by
      have : s₂ = ({ s₂ with vm := (U.calling g mk As.toArray).vm } : State).setVm s₂.vm := rfl
      rw [e2] at this
      exact this
    obtain ⟨c₂, i₂, len₂, hc₂, hd₂, hf₂⟩ := hend
    have hW' : U.WarmedH s₂.vm := hW₂
    have hcc : c₂ = c := by
      have h1 : s₂.code? g.method = U.code? g.method := by
        rw [State.code?_eq, State.code?_eq, hW'.alike.method?]
      exact Option.some.inj (hc₂.symm.trans (h1.trans hat.code))
    subst hcc
    have hlen : len₂ = 3 := by rw [hdg] at hd₂; cases hd₂; rfl
    subst hlen
    have hs₂ : s₂ = (({ U with heap := s₂.heap, slotsUsed := s₂.slotsUsed } : State).setVm s₂.vm).setTop { g with pc := g.pc + 3, stack := v.toList ++ g.stack } := by
      refine e3.trans ?_
      rw [hf₂, State.calling_eq hat.top, State.setFrames_setFrames, State.setTop_of_frames _ hr', hr]
      rfl
    have hsame : U.sameButNew ({ U with heap := s₂.heap, slotsUsed := s₂.slotsUsed } : State) L (hh1.1 - h.1) (hh1.2.1 - h.2.1) := by
      refine ⟨?_, q2, q3, q4, q5, q6⟩
      obtain ⟨t, ht, -⟩ := State.frames_cons hr
      show ({ U with heap := s₂.heap, slotsUsed := s₂.slotsUsed } : State) = { U.setFrames U.frames with heap := s₂.heap, slotsUsed := s₂.slotsUsed }
      rw [State.setFrames_self ht]
    subst hg
    refine ⟨(({ U with heap := s₂.heap, slotsUsed := s₂.slotsUsed } : State).setVm s₂.vm), L,
      ⟨Y.admits, Y.cas, Y.clock, Y.frames, Y.room, Y.hears, Y.method, Y.code, (Y.here.setHeapUsed s₂.heap s₂.slotsUsed).setVm hW'.alike, Y.tail, State.WarmedH.trans Y.warmed hW', Y.limits, Y.bytes, Y.same.trans (hsame.setVm s.vm)⟩, hmono, hR2, hL, ?_⟩
    rw [← hs₂]
    exact hsteps
  · obtain ⟨q, ce, L, rfl, hmono, hR2, hce, hcv, hcl, hW₂, hsm, hL⟩ := hq'
    obtain ⟨e2, q2, q3, q4, q5, q6⟩ := id hsm
    have e3 : s₂ = ({ (U.calling g mk As.toArray).setFrames s₂.frames with heap := s₂.heap, slotsUsed := s₂.slotsUsed } : State).setVm s₂.vm := by
      have : s₂ = ({ s₂ with vm := (U.calling g mk As.toArray).vm } : State).setVm s₂.vm := rfl
      rw [e2] at this
      exact this
    have hf₂ : s₂.frames = .throwing q :: .java g :: U.frames.tail := hend
    have hW' : U.WarmedH s₂.vm := hW₂
    have hs₂ : s₂ = ((({ U with heap := s₂.heap, slotsUsed := s₂.slotsUsed } : State).setVm s₂.vm).setTop g).pushFrame (.throwing q) := by
      refine e3.trans ?_
      rw [hf₂, State.calling_eq hat.top, State.setFrames_setFrames, State.pushFrame, State.frames_setTop _ hr', State.setTop_of_frames _ hr', State.setFrames_setFrames, hr]
      rfl
    have hsame : U.sameButNew ({ U with heap := s₂.heap, slotsUsed := s₂.slotsUsed } : State) L (hh1.1 - h.1) (hh1.2.1 - h.2.1) := by
      refine ⟨?_, q2, q3, q4, q5, q6⟩
      obtain ⟨t, ht, -⟩ := State.frames_cons hr
      show ({ U with heap := s₂.heap, slotsUsed := s₂.slotsUsed } : State) = { U.setFrames U.frames with heap := s₂.heap, slotsUsed := s₂.slotsUsed }
      rw [State.setFrames_self ht]
    have hcl2 : s.vm.findClass (xEn E) = some ce.cls := by
      have h9 : U.vm.findClass (xEn E) = some ce.cls := hcl
      rw [← Y.warmed.alike.findClass]; exact h9
    subst hg
    refine ⟨(({ U with heap := s₂.heap, slotsUsed := s₂.slotsUsed } : State).setVm s₂.vm), L, q, ce,
      ⟨Y.admits, Y.cas, Y.clock, Y.frames, Y.room, Y.hears, Y.method, Y.code, (Y.here.setHeapUsed s₂.heap s₂.slotsUsed).setVm hW'.alike, Y.tail, State.WarmedH.trans Y.warmed hW', Y.limits, Y.bytes, Y.same.trans (hsame.setVm s.vm)⟩, hmono, hR2, hL, hce, hcv, hcl2, ?_⟩
    rw [← hs₂]
    exact hsteps
end XK
