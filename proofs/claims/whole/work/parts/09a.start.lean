/-! THE CLAIM OUT OF ONE WALK OF THE LAW'S BODY. Your part is whole_start (and what it stands on); all else here is the same for every law, but numbers. -/
def R_law : String := "PilotStationLaw"
def lw_P (b : Addr) (xs : List Int32) (args : Array Value) (s : State) : Prop := args = #[.ref b] ∧ s.IntsAt b xs ∧ xs.length ≤ 3584 ∧ (Jvm.Cond.and given_1 narrow_1).before args s = true
def lw_Q (_ : Array Value) (s : State) (o : Outcome) (t : State) : Prop := o = .returned (some (.int 1)) ∧ Framed s o t [] 601024 7293034
def lw_Z (below : List Frame) (a : Array Value) (s : State) : State → Prop := fun t => ∃ o, t.status = .running ∧ Ended t below o ∧ lw_Q a s o t
/-- the law's own end, with 1 on the stack, nothing written that was there before, its room as the claim has it -/
theorem lw_ret {p : Program} {l : Launch} {e : Env} {s : State} {m : MethodId} {below : List Frame} {meth : Method} {c : Code} {b : Nat} (hx : p.tables.exec = Jvm.exec) (hb : c.code = code) (hr : meth.sig.returnType = ret) (hlocks : meth.locks = false) {pc : Nat} {H : Heap} {ls : Array Slot} (hdg : decode code pc = .ok (.ireturn, 1)) : W p l e room_1 s m #[Value.ref b] below meth c H [] 601024 7293034 (lw_Z below #[Value.ref b] s) (F0 m pc ls [.int 1]) := by
  intro T hT X
  obtain ⟨fs, hret, hrun, hended, hW, hframe⟩ := X.leave (v := some (.int 1)) (hlocks := hlocks) (fun h => by rw [hr] at h; cases h)
  have hmeth' : T.vm.method? m = some meth := X.method'
  refine ⟨T.setFrames fs, ?_, .returned (some (.int 1)), hrun, hended, rfl, ⟨_, rfl⟩, hW, hframe⟩
  jvm_step X.here [X.here.top, hx, hb, hdg, hmeth', hr, ret, narrow_b1]
  (try refine ⟨rfl, ?_⟩); (try refine ⟨rfl, ?_⟩)
  first | (intro acts; rw [hret _ acts rfl rfl rfl]) | rw [hret _ _ rfl rfl rfl]
  exact Steps.refl _
/-- what holds at the law's entry: the machine, the code, the tables' words (any of lw_tbl by 'hts w (by decide +kernel)'), the script of L ints xs at the cell b, what the Statement gives of the start (any of its parts by flat_of_before) -/
def lw_At (p : Program) (s : State) (m : MethodId) (meth : Method) (c : Code) (b L : Nat) (xs : Nat → Int32) : Prop :=
  p.tables.exec = Jvm.exec ∧ c.code = code ∧ meth.sig.returnType = ret ∧ c.maxLocals = 7 ∧ s.vm.findClass R_law = some m.cls ∧ (∀ w ∈ lw_tbl, w.before #[Value.ref b] s = true) ∧ va_X b L xs s s.heap ∧ b < s.heap.size ∧ meth.locks = false ∧ (Jvm.Cond.and given_1 narrow_1).before #[Value.ref b] s = true
/-- what is owed of the small machine: from the start on the law answers 1 -/
def LawOK : Prop := ∀ (g : Nat × Nat × Nat) (b L : Nat) (xs : Nat → Int32), L ≤ 3584 → b < g.1 → g.2.1 < g.1 → b ≠ g.2.1 →
  ∃ h1 : xH, Ev g m_L_law 0 [some (.ref b), none, none, none, none, none, none] [] (g.1, 0, fun a => if a = b then some (.inr (4, L, fun j => .int (xs j))) else if a = g.2.1 then some (.inr (5, 0, fun _ => .null)) else none) (.inl (some (.int 1)), h1)
theorem xT_tbl {w : Cond} (h : w ∈ xT) : w ∈ lw_tbl := (List.mem_filter.mp h).1
theorem xinst : ∀ c, c < 12 → Cond.instantiable (xown c) (xNf c) ∈ lw_tbl := by decide +kernel
theorem xcastO : ∀ c, c < 12 → Cond.castable (xown c) "java/lang/Object" ∈ lw_tbl := by decide +kernel
theorem xcastE : ∀ c, c < 3 → Cond.castable (xEn c) (xEn c) ∈ lw_tbl := by decide +kernel
theorem xth_tbl : ∀ q ∈ xthT, ∀ w ∈ xthw q, w ∈ lw_tbl := by decide +kernel
theorem xth_str : ∀ q ∈ xthT, ∃ tx : String, Cond.stringRef "PilotStation" q.2.2.2.2.1 tx ∈ lw_tbl := by
  have h : xthT.all (fun q => lw_tbl.any (fun w => match w with | .stringRef o k _ => decide (o = "PilotStation" ∧ k = q.2.2.2.2.1) | _ => false)) = true := by decide +kernel
  intro q hq
  obtain ⟨w, hw, hp⟩ := List.any_eq_true.mp (List.all_eq_true.mp h q hq)
  cases w <;> simp at hp
  rename_i o k tx
  obtain ⟨rfl, rfl⟩ := hp
  exact ⟨tx, hw⟩
theorem xncast : ∀ a, a < 3 → ∀ b, b < 3 → a ≠ b → Cond.not (.castable (xEn a) (xEn b)) ∈ flat (Jvm.Cond.and given_1 narrow_1) := by decide +kernel
set_option maxHeartbeats 4000000 in
theorem whole_start_of (hLaw : LawOK) {p : Program} {e : Env} {s : State} {m : MethodId} {below : List Frame} {meth : Method} {c : Code} (l : Launch) (hl : l.stackTraces = false) {b L : Nat} {xs : Nat → Int32} (hL : L ≤ 3584) (C0 : lw_At p s m meth c b L xs) : W p l e room_1 s m #[Value.ref b] below meth c s.heap [] 0 0 (lw_Z below #[Value.ref b] s) (entryFrame m ([Value.ref b] : List Value).toArray 7) := by
  intro T hT X
  obtain ⟨hx, hb, hr, hml, hown, hts, hX, hbl, hlocks, hgv⟩ := id C0
  have hs := flat_of_before _ hgv
  have hA : ∀ a : Nat, a < s.heap.size → ¬ (fun q => s.heap.size ≤ q) a := fun a h => Nat.not_le.mpr h
  have hkn : ∀ c, ∃ (cC : ClassId) (iS : Nat → Nat), c < 12 → u_Kn s (xown c) (xfd c) (xNf c) cC iS := by
    intro c
    by_cases hc : c < 12
    · obtain ⟨cC, iS, h⟩ := u_known (C := xown c) (T := xfd c) (N := xNf c) (n := xNf c) hts (fun w hw => xT_tbl (xws_in c hc w hw)) (hts _ (xinst c hc))
      exact ⟨cC, iS, fun _ => h⟩
    · exact ⟨0, fun _ => 0, fun h => absurd h hc⟩
  obtain ⟨cO, kO, compO, o1, o2, o3, o4⟩ : ∃ (cO : ClassId) (kO : Class) (comp : ClassId), s.vm.findClass ("[" ++ (FieldType.object "java/lang/Object").toString) = some cO ∧ s.vm.classes[cO]? = some kO ∧ kO.kind = .array comp (.object "java/lang/Object") ∧ s.vm.findClass "java/lang/Object" = some comp := by
    obtain ⟨comp, c, k, h1, -, h3, h4, h5⟩ := Cond.arrayOver_spec (hts (.arrayOver (.object "java/lang/Object")) (by decide +kernel))
    exact ⟨c, k, comp, h5, h3, h4, h1⟩
  obtain ⟨cI, kI, compI, i1, i2, i3⟩ := Cond.arrayClass_spec (hts (.arrayClass .int) (by decide +kernel))
  obtain ⟨cZ, kZ, compZ, z1, z2, z3⟩ := Cond.arrayClass_spec (hts (.arrayClass .boolean) (by decide +kernel))
  obtain ⟨cJ, kJ, compJ, j1, j2, j3⟩ := Cond.arrayClass_spec (hts (.arrayClass .long) (by decide +kernel))
  obtain ⟨mir, hmir⟩ := va_Mi.of (hs (.isRef (.mirror "[Ljava/lang/Object;")) (by decide +kernel))
  obtain ⟨ed, hed, hedT⟩ := va_Tof (N := 0) (f := fun _ => .null) (A := fun q => s.heap.size ≤ q) (by decide) (hs (.arrayOf (.static "java/util/ArrayList" "DEFAULTCAPACITY_EMPTY_ELEMENTDATA" "[Ljava/lang/Object;") (.object "java/lang/Object")) (by decide +kernel))
    (va_eqt (hs (.eq (.length (.static "java/util/ArrayList" "DEFAULTCAPACITY_EMPTY_ELEMENTDATA" "[Ljava/lang/Object;")) (.int 0)) (by decide +kernel))) (fun j hj => absurd hj (Nat.not_lt_zero j)) hA
  have hZ := va_Zof (A := fun q => s.heap.size ≤ q) (hts (.laysStatic "java/util/ArrayList" "DEFAULTCAPACITY_EMPTY_ELEMENTDATA" "[Ljava/lang/Object;") (by decide +kernel)) (hts (.initialized "java/util/ArrayList") (by decide +kernel)) hed hA
  obtain ⟨ecell, e1, e2, e3, e4, e5, -, e7⟩ := hedT
  have hbed : b ≠ ed := by
    intro hq
    subst hq
    obtain ⟨scr, f1, f2, -⟩ := hX
    cases f1.symm.trans e1
    obtain ⟨-, k1, hk1, cm1, hkk1⟩ := f2
    obtain ⟨-, k2, hk2, cm2, hkk2⟩ := e2
    cases hk1.symm.trans hk2
    rw [hkk1] at hkk2
    cases hkk2
  have hesz : ecell.slots.size = 0 := by
    have h5 : ecell.slots.size.toInt32 = 0 := e5
    by_cases hz : ecell.slots.size = 0
    · exact hz
    · exact absurd e4 (by
        have := hs (.exactly (.static "java/util/ArrayList" "DEFAULTCAPACITY_EMPTY_ELEMENTDATA" "[Ljava/lang/Object;") "[Ljava/lang/Object;") (by decide +kernel)
        sorry)
  let G : xG := (fun c => Classical.choose (hkn c), fun c => Classical.choose (Classical.choose_spec (hkn c)), fun t => if t = 0 then cI else if t = 1 then cZ else if t = 2 then cO else cJ, (s.heap.size, ed, mir), s.heap, b, L, xs)
  have hC : xC G s := by
    refine ⟨fun c hc => Classical.choose_spec (Classical.choose_spec (hkn c)) hc, fun t ht => ?_, ⟨kO, compO, o2, o3, o4, o1⟩, hmir, va_AO.of (hts (.arrayOver (.object "java/lang/Object")) (by decide +kernel)), va_Dc.of (hts (.declares ⟨"java/lang/Object", "getClass", "()Ljava/lang/Class;"⟩) (by decide +kernel)), fun c hc => va_Nw.of rfl (hts _ (xcastO c hc)), hZ, rfl, hX, ecell, e1, e2, hesz⟩
    match t, ht with
    | 0, _ => exact ⟨i1, fun n z => ⟨fun k h => (by cases h), kI, i2, compI, i3⟩⟩
    | 1, _ => exact ⟨z1, fun n z => ⟨fun k h => (by cases h), kZ, z2, compZ, z3⟩⟩
    | 2, _ => exact ⟨o1, fun n z => ⟨fun k h => (by cases h), kO, o2, compO, o3⟩⟩
    | 3, _ => exact ⟨j1, fun n z => ⟨fun k h => (by cases h), kJ, j2, compJ, j3⟩⟩
  have hX2 : xX2 G s := by
    refine ⟨⟨vx_Zqof (hts (.laysStatic Bundle.tN "UNASSIGNED_STACK" Bundle.steD) (by decide +kernel)) (hts (.initialized Bundle.tN) (by decide +kernel)) (hs _ (by decide +kernel)) hA, vx_Zqof (hts (.laysStatic Bundle.tN "SUPPRESSED_SENTINEL" Bundle.listD) (by decide +kernel)) (hts (.initialized Bundle.tN) (by decide +kernel)) (hs _ (by decide +kernel)) hA, fun q hq => ⟨?_, fun w hw => ?_⟩⟩, fun a b2 ha hb2 hab => va_Nc.of (hs _ (xncast a ha b2 hb2 hab)), fun a ha => va_Nw.of rfl (hts _ (xcastE a ha))⟩
    · obtain ⟨tx, htx⟩ := xth_str q hq
      have h1 := hts _ htx
      sorry
    · have := List.all_eq_true.mp (List.all_eq_true.mp xth_w1 q hq) w hw
      simp only [Bool.and_eq_true] at this
      exact vx_ot_at (State.WarmedH.refl s) rfl this.2 (hts _ (xth_tbl q hq w hw))
  obtain ⟨h1, hE⟩ := hLaw G.2.2.2.1 b L xs hL hbl (by
    obtain ⟨hlt, -⟩ := Array.getElem?_eq_some_iff.mp e1
    exact hlt) hbed
  have K := xsound (G := G) hl hE
  have hCB : xB G (xX2 G) m_L_law p s m #[Value.ref b] meth c := ⟨hx, hb, hr, hml, hown, fun w hw => hts w (xT_tbl hw), hlocks, ?nm, ?tb, hC, hX2, by decide +kernel, by decide +kernel⟩
  sorry
  sorry
  sorry
