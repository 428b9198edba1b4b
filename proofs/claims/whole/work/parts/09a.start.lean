/-! THE CLAIM OUT OF ONE WALK OF THE LAW'S BODY. Your part is whole_start (and what it stands on); all else here is the same for every law, but numbers. -/
def R_law : String := "PilotStationLaw"
def lw_P (b : Addr) (xs : List Int32) (args : Array Value) (s : State) : Prop := args = #[.ref b] ∧ s.IntsAt b xs ∧ xs.length ≤ 3584 ∧ (Jvm.Cond.and given_1 narrow_1).before args s = true
def lw_Q (_ : Array Value) (s : State) (o : Outcome) (t : State) : Prop := o = .returned (some (.int 1)) ∧ Framed s o t [] 601024 7293034
def lw_Z (below : List Frame) (a : Array Value) (s : State) : State → Prop := fun t => ∃ o, t.status = .running ∧ Ended t below o ∧ lw_Q a s o t
/-- the law's own end, with 1 on the stack, nothing written that was there before, its room as the claim has it -/
theorem lw_ret {p : Program} {l : Launch} {e : Env} {s : State} {m : MethodId} {below : List Frame} {meth : Method} {c : Code} {b : Nat} (hx : p.tables.exec = Jvm.exec) (hb : c.code = code) (hr : meth.sig.returnType = ret) (hlocks : meth.locks = false) {pc : Nat} {H : Heap} {ls : Array Slot} (hdg : decode code pc = .ok (.ireturn, 1)) : W p l e room_1 s m #[Value.ref b] below meth c H [] 601024 7293034 (lw_Z below #[Value.ref b] s) (F0 m pc ls [.int 1]) := by
  intro T hT X
  obtain ⟨fs, hret, hrun, hended, hW, hframe⟩ := X.leave (v := some (.int 1)) (hlocks := hlocks) (fun h => by rw [hr] at h; cases h)
  have hmeth' : T.vm.method? m = some meth := X.method'
  refine ⟨T.setFrames fs, ?_, .returned (some (.int 1)), hrun, hended, rfl, ⟨_, rfl⟩, hW, hframe⟩
  jvm_step X.here [X.here.top, hx, hb, hdg, hmeth', hr, ret, narrow_b1]
  (try refine ⟨rfl, ?_⟩); (try refine ⟨rfl, ?_⟩)
  first | (intro acts; rw [hret _ acts rfl rfl rfl]) | rw [hret _ _ rfl rfl rfl]
  exact Steps.refl _
/-- what holds at the law's entry: the machine, the code, the tables' words (any of lw_tbl by 'hts w (by decide +kernel)'), the script of L ints xs at the cell b, what the Statement gives of the start (any of its parts by flat_of_before) -/
def lw_At (p : Program) (s : State) (m : MethodId) (meth : Method) (c : Code) (b L : Nat) (xs : Nat → Int32) : Prop :=
  p.tables.exec = Jvm.exec ∧ c.code = code ∧ meth.sig.returnType = ret ∧ c.maxLocals = 7 ∧ s.vm.findClass R_law = some m.cls ∧ (∀ w ∈ lw_tbl, w.before #[Value.ref b] s = true) ∧ va_X b L xs s s.heap ∧ b < s.heap.size ∧ meth.locks = false ∧ (Jvm.Cond.and given_1 narrow_1).before #[Value.ref b] s = true ∧ meth.name = "law" ∧ c.exceptionTable.isEmpty = true
theorem len_small {args : Array Value} {s : State} {t : Term} {a : Nat} {n : Int32} (ht : t.eval args s none [] s = some (.ref a)) (h : (Term.length t).eval args s none [] s = some (.int n)) : ∃ cell : Cell, s.arrayAt? a = some cell ∧ cell.slots.size < 2 ^ 31 ∧ cell.slots.size.toInt32 = n := by
  simp only [Term.eval, ht, Option.bind_eq_bind, Option.bind_some] at h
  cases ha : s.arrayAt? a with
  | none => simp [ha] at h
  | some cell =>
    simp only [ha, Option.bind_some] at h
    by_cases hn : cell.slots.size < 2 ^ 31
    · rw [if_pos hn] at h
      exact ⟨cell, rfl, hn, by simpa using h⟩
    · rw [if_neg hn] at h
      cases h
theorem stand_room {p : Program} {l : Launch} {e : Env} {R R' : Room} {s : State} {m : MethodId} {args : Array Value} {below : List Frame} {meth : Method} {c : Code} {T : State} {locs : List Loc} {cells slots : Nat} (X : Stand p l e R s m args below meth c T locs cells slots) (hf : R'.frames ≤ R.frames) (hl : R'.locals ≤ R.locals) (hc : R'.cells ≤ R.cells) (hs : R'.slots ≤ R.slots) : Stand p l e R' s m args below meth c T locs cells slots := by
  refine ⟨X.admits, X.cas, X.clock, X.frames, ?_, X.hears, X.method, X.code, X.here, X.tail, X.warmed, X.limits, X.bytes, X.same⟩
  have h := X.room
  simp only [State.hasRoom, Bool.and_eq_true, decide_eq_true_eq] at h ⊢
  obtain ⟨⟨⟨⟨h1, h2, h3, h4, h5, h6⟩, h7⟩, h8⟩, h9⟩ := h
  exact ⟨⟨⟨⟨by omega, by omega, by omega, by omega, by omega, h6⟩, by omega⟩, by omega⟩, h9⟩
set_option maxHeartbeats 4000000 in
theorem whole_start_of (hLaw : LawOK) {p : Program} {e : Env} {s : State} {m : MethodId} {below : List Frame} {meth : Method} {c : Code} (l : Launch) (hl : l.stackTraces = false) {b L : Nat} {xs : Nat → Int32} (hL : L ≤ 3584) (C0 : lw_At p s m meth c b L xs) : W p l e room_1 s m #[Value.ref b] below meth c s.heap [] 0 0 (lw_Z below #[Value.ref b] s) (entryFrame m ([Value.ref b] : List Value).toArray 7) := by
  intro T hT X
  obtain ⟨hx, hb, hr, hml, hown, hts, hX, hbl, hlocks, hgv, hnm, het⟩ := id C0
  have hs := flat_of_before _ hgv
  have hA : ∀ a : Nat, a < s.heap.size → ¬ (fun q => s.heap.size ≤ q) a := fun a h => Nat.not_le.mpr h
  have hkn : ∀ c, ∃ (cC : ClassId) (iS : Nat → Nat), c < 12 → u_Kn s (xown c) (xfd c) (xNf c) cC iS := by
    intro c
    by_cases hc : c < 12
    · obtain ⟨cC, iS, h⟩ := u_known (C := xown c) (T := xfd c) (N := xNf c) (n := xNf c) hts (fun w hw => xT_tbl (xws_in c hc w hw)) (hts _ (xinst c hc))
      exact ⟨cC, iS, fun _ => h⟩
    · exact ⟨0, fun _ => 0, fun h => absurd h hc⟩
  obtain ⟨cO, kO, compO, o1, o2, o3, o4⟩ : ∃ (cO : ClassId) (kO : Class) (comp : ClassId), s.vm.findClass ("[" ++ (FieldType.object "java/lang/Object").toString) = some cO ∧ s.vm.classes[cO]? = some kO ∧ kO.kind = .array comp (.object "java/lang/Object") ∧ s.vm.findClass "java/lang/Object" = some comp := by
    obtain ⟨comp, c, k, h1, -, h3, h4, h5⟩ := Cond.arrayOver_spec (hts (.arrayOver (.object "java/lang/Object")) (by decide +kernel))
    exact ⟨c, k, comp, h5, h3, h4, h1⟩
  obtain ⟨cI, kI, compI, i1, i2, i3⟩ := Cond.arrayClass_spec (hts (.arrayClass .int) (by decide +kernel))
  obtain ⟨cZ, kZ, compZ, z1, z2, z3⟩ := Cond.arrayClass_spec (hts (.arrayClass .boolean) (by decide +kernel))
  obtain ⟨cJ, kJ, compJ, j1, j2, j3⟩ := Cond.arrayClass_spec (hts (.arrayClass .long) (by decide +kernel))
  obtain ⟨mir, hmir⟩ := va_Mi.of (hs (.isRef (.mirror "[Ljava/lang/Object;")) (by decide +kernel))
  obtain ⟨ed, hed, hedT⟩ := va_Tof (N := 0) (f := fun _ => .null) (A := fun q => s.heap.size ≤ q) (by decide) (hs (.arrayOf (.static "java/util/ArrayList" "DEFAULTCAPACITY_EMPTY_ELEMENTDATA" "[Ljava/lang/Object;") (.object "java/lang/Object")) (by decide +kernel))
    (va_eqt (hs (.eq (.length (.static "java/util/ArrayList" "DEFAULTCAPACITY_EMPTY_ELEMENTDATA" "[Ljava/lang/Object;")) (.int 0)) (by decide +kernel))) (fun j hj => absurd hj (Nat.not_lt_zero j)) hA
  have hZ := va_Zof (A := fun q => s.heap.size ≤ q) (hts (.laysStatic "java/util/ArrayList" "DEFAULTCAPACITY_EMPTY_ELEMENTDATA" "[Ljava/lang/Object;") (by decide +kernel)) (hts (.initialized "java/util/ArrayList") (by decide +kernel)) hed hA
  obtain ⟨ecell, e1, e2, e3, e4, e5, -, e7⟩ := hedT
  have hbed : b ≠ ed := by
    intro hq
    subst hq
    obtain ⟨scr, f1, f2, -⟩ := hX
    cases f1.symm.trans e1
    obtain ⟨-, k1, hk1, cm1, hkk1⟩ := f2
    obtain ⟨-, k2, hk2, cm2, hkk2⟩ := e2
    cases hk1.symm.trans hk2
    rw [hkk1] at hkk2
    cases hkk2
  have hesz : ecell.slots.size = 0 := by
    obtain ⟨cell2, q1, q2, q3⟩ := len_small hed (va_eqt (hs (.eq (.length (.static "java/util/ArrayList" "DEFAULTCAPACITY_EMPTY_ELEMENTDATA" "[Ljava/lang/Object;")) (.int 0)) (by decide +kernel)))
    obtain ⟨q4, -, -, -⟩ := State.arrayAt?_spec q1
    cases q4.symm.trans e1
    exact (nI_eq q2 (by decide)).mp (show nI ecell.slots.size = nI 0 from q3)
  let G : xG := (fun c => Classical.choose (hkn c), fun c => Classical.choose (Classical.choose_spec (hkn c)), fun t => if t = 0 then cI else if t = 1 then cZ else if t = 2 then cO else cJ, (s.heap.size, ed, mir), s.heap, b, L, xs)
  have hC : xC G s := by
    refine ⟨fun c hc => Classical.choose_spec (Classical.choose_spec (hkn c)) hc, fun t ht => ?_, ⟨kO, compO, o2, o3, o4, o1⟩, hmir, va_AO.of (hts (.arrayOver (.object "java/lang/Object")) (by decide +kernel)), va_Dc.of (hts (.declares ⟨"java/lang/Object", "getClass", "()Ljava/lang/Class;"⟩) (by decide +kernel)), fun c hc => va_Nw.of rfl (hts _ (xcastO c hc)), hZ, rfl, hX, ecell, e1, e2, hesz⟩
    match t, ht with
    | 0, _ => exact ⟨i1, fun n z => ⟨fun k h => (by cases h), kI, i2, compI, i3⟩⟩
    | 1, _ => exact ⟨z1, fun n z => ⟨fun k h => (by cases h), kZ, z2, compZ, z3⟩⟩
    | 2, _ => exact ⟨o1, fun n z => ⟨fun k h => (by cases h), kO, o2, compO, o3⟩⟩
    | 3, _ => exact ⟨j1, fun n z => ⟨fun k h => (by cases h), kJ, j2, compJ, j3⟩⟩
  have hX2 : xX2 G s := by
    refine ⟨⟨vx_Zqof (hts (.laysStatic Bundle.tN "UNASSIGNED_STACK" Bundle.steD) (by decide +kernel)) (hts (.initialized Bundle.tN) (by decide +kernel)) (hs _ (by decide +kernel)) hA, vx_Zqof (hts (.laysStatic Bundle.tN "SUPPRESSED_SENTINEL" Bundle.listD) (by decide +kernel)) (hts (.initialized Bundle.tN) (by decide +kernel)) (hs _ (by decide +kernel)) hA, fun q hq => ⟨?_, fun w hw => ?_⟩⟩, fun a b2 ha hb2 hab => va_Nc.of (hs _ (xncast a ha b2 hb2 hab)), fun a ha => va_Nw.of rfl (hts _ (xcastE a ha))⟩
    · obtain ⟨tx, htx⟩ := xth_str q hq
      have h1 := hts _ htx
      obtain ⟨cC, iS, hk10⟩ := hkn 10
      have hps : s.vm.findClass "PilotStation" = some cC := (hk10 (by decide)).2.1
      obtain ⟨k, cf, i, sa, -, -, -, -, -, h2⟩ := Cond.stringRef_spec hps h1
      exact ⟨tx, sa, vk_R.of h1 h2⟩
    · have := List.all_eq_true.mp (List.all_eq_true.mp xth_w1 q hq) w hw
      simp only [Bool.and_eq_true] at this
      exact vx_ot_at (State.WarmedH.refl s) rfl this.2 (hts _ (xth_tbl q hq w hw))
  obtain ⟨h1, hE⟩ := hLaw G.2.2.2.1 b L xs hL hbl (by
    obtain ⟨hlt, -⟩ := Array.getElem?_eq_some_iff.mp e1
    exact hlt) hbed
  have K := xsound (G := G) hl hE
  have htb : xtb m_L_law c := by
    unfold xtb
    rw [show xhh m_L_law = [] from rfl]
    simpa using het
  have hCB : xB G (xX2 G) m_L_law p s m #[Value.ref b] meth c := ⟨hx, hb, hr, hml, hown, fun w hw => hts w (xT_tbl hw), hlocks, hnm, htb, hC, hX2, by decide +kernel, by decide +kernel⟩
  have hR : xRel G (s.heap.size, 0, fun a => if a = b then some (.inr (4, L, fun j => .int (xs j))) else if a = ed then some (.inr (5, 0, fun _ => .null)) else none) s.heap := by
    refine ⟨rfl, ⟨Nat.le_refl _, Nat.le_add_right _ _, Nat.zero_le _⟩, fun q hq => rfl, fun a e9 h9 => ?_⟩
    simp only at h9
    by_cases ha : a = b
    · rw [if_pos ha] at h9
      cases h9
      exact Or.inr (Or.inl ⟨rfl, ha ▸ hbl, ha, rfl, rfl⟩)
    · rw [if_neg ha] at h9
      by_cases ha2 : a = ed
      · rw [if_pos ha2] at h9
        cases h9
        exact Or.inr (Or.inr ⟨rfl, ha2 ▸ (Array.getElem?_eq_some_iff.mp e1).1, ha2, rfl⟩)
      · rw [if_neg ha2] at h9
        cases h9
  have hZZ : xZ G s (s.heap.size, 0, fun a => if a = b then some (.inr (4, L, fun j => .int (xs j))) else if a = ed then some (.inr (5, 0, fun _ => .null)) else none) (s.heap.size, 0, fun a => if a = b then some (.inr (4, L, fun j => .int (xs j))) else if a = ed then some (.inr (5, 0, fun _ => .null)) else none) s.heap [] := ⟨⟨Nat.le_refl _, Nat.le_refl _, Nat.le_refl _, rfl⟩, fun q hq => rfl, (fun z hz => nomatch hz), hR⟩
  have hcat : ∀ v ∈ [Value.ref b], v.category = 1 := fun v hv => by
    rw [List.mem_singleton.mp hv]; rfl
  have K2 := K p e s m #[Value.ref b] below meth c s.heap [] _ _ hCB hZZ (xLoc_entry (M := m_L_law) hcat (by show 1 ≤ 7; decide))
  rw [Nat.sub_self, Nat.sub_self] at K2
  have X2 := stand_room X (R' := xRm G m_L_law (s.heap.size, 0, fun a => if a = b then some (.inr (4, L, fun j => .int (xs j))) else if a = ed then some (.inr (5, 0, fun _ => .null)) else none)) (by show 25 ≤ 2048; decide) (by show 694 ≤ 84000; decide) (by show s.heap.size + 601024 - s.heap.size ≤ 601024; omega) (by show 7293034 - 0 ≤ 7293034; omega)
  obtain ⟨t, a1, o2, b1, b2, b3⟩ := K2 T hT X2
  refine ⟨t, ?_, o2, b1, b2, ?_⟩
  · rw [lg_entry_eq]
    exact a1
  · obtain ⟨c1, -, c3, Lo, ⟨d1, d2, d3⟩, c5⟩ := b3
    refine ⟨c1, d1, d2, d3.weaken (fun q hq hlt => absurd (c5 q hq) (Nat.not_le.mpr hlt)) ?_ ?_⟩
    · have := c3.2.1.2.1
      show h1.1 - s.heap.size ≤ 601024
      have : h1.1 ≤ s.heap.size + 601024 := this
      omega
    · have : h1.2.1 ≤ 7293034 := c3.2.1.2.2
      show h1.2.1 - 0 ≤ 7293034
      omega
theorem whole_start {p : Program} {e : Env} {s : State} {m : MethodId} {below : List Frame} {meth : Method} {c : Code} (l : Launch) (hl : l.stackTraces = false) {b L : Nat} {xs : Nat → Int32} (hL : L ≤ 3584) (C0 : lw_At p s m meth c b L xs) : W p l e room_1 s m #[Value.ref b] below meth c s.heap [] 0 0 (lw_Z below #[Value.ref b] s) (entryFrame m ([Value.ref b] : List Value).toArray 7) := whole_start_of lawOK l hl hL C0
