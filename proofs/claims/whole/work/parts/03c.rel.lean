/-! ===== the small machine over the machine: what a heap holds, what a frame is ===== -/
/-- class numbers, slots of fields, array classes, (base, the empty row, the mirror), the heap at the start, the script: its address, length, ints -/
abbrev xG : Type := (Nat → ClassId) × (Nat → Nat → Nat) × (Nat → ClassId) × (Nat × Nat × Nat) × Heap × Nat × Nat × (Nat → Int32)
def xty (t : Nat) : FieldType := match t with | 0 => .int | 1 => .boolean | 2 => .object "java/lang/Object" | _ => .long
def xat (G : xG) (a : Nat) (e : xE) (H : Heap) : Prop := match e with
  | .inl q => q.1 < 12 ∧ t_OB a (G.1 q.1) (xNf q.1) (G.2.1 q.1) H q.2
  | .inr q => (q.1 < 4 ∧ q.2.1 < 2 ^ 31 ∧ H[a]? = some (arrV (G.2.2.1 q.1) q.2.1 q.2.2)) ∨ (q.1 = 4 ∧ a < G.2.2.2.1.1 ∧ a = G.2.2.2.2.2.1 ∧ q.2.1 = G.2.2.2.2.2.2.1 ∧ q.2.2 = fun j => .int (G.2.2.2.2.2.2.2 j)) ∨ (q.1 = 5 ∧ a < G.2.2.2.1.1 ∧ a = G.2.2.2.1.2.1 ∧ q.2.1 = 0)
def xRel (G : xG) (h : xH) (H : Heap) : Prop := H.size = h.1 ∧ (G.2.2.2.1.1 ≤ h.1 ∧ h.1 ≤ G.2.2.2.1.1 + 601024 ∧ h.2.1 ≤ 7293034) ∧ (∀ q : Nat, q < G.2.2.2.1.1 → H[q]? = G.2.2.2.2.1[q]?) ∧ ∀ (a : Nat) (e : xE), h.2.2 a = some e → xat G a e H
def xC (G : xG) (U : State) : Prop :=
  (∀ c, c < 12 → u_Kn U (xown c) (xfd c) (xNf c) (G.1 c) (G.2.1 c)) ∧
  (∀ t, t < 4 → U.vm.findClass ("[" ++ (xty t).toString) = some (G.2.2.1 t) ∧ ArrOfT U (G.2.2.1 t) (xty t)) ∧
  va_RA U (G.2.2.1 2) (.object "java/lang/Object") ∧ va_Mi "[Ljava/lang/Object;" G.2.2.2.1.2.2 U ∧ va_AO "java/lang/Object" U ∧ va_Dc U ∧
  (∀ c, c < 12 → va_Nw (.castable (xown c) "java/lang/Object") U) ∧
  va_Z "java/util/ArrayList" "DEFAULTCAPACITY_EMPTY_ELEMENTDATA" "[Ljava/lang/Object;" (.ref G.2.2.2.1.2.1) (fun q => G.2.2.2.1.1 ≤ q) U G.2.2.2.2.1 ∧ G.2.2.2.2.1.size = G.2.2.2.1.1 ∧ va_X G.2.2.2.2.2.1 G.2.2.2.2.2.2.1 G.2.2.2.2.2.2.2 U G.2.2.2.2.1 ∧ ∃ cell : Cell, G.2.2.2.2.1[G.2.2.2.1.2.1]? = some cell ∧ U.isArrayOf cell (.object "java/lang/Object") ∧ cell.slots.size = 0
def xtb (M : Nat) (c : Code) : Prop := c.exceptionTable.toList = (xhh M).map (fun q => ({ startPc := q.1, endPc := q.2.1, handlerPc := q.2.2.1, catchType := q.2.2.2 } : ExceptionTableEntry))
def xB (G : xG) (X : State → Prop) (M : Nat) (p : Program) (s : State) (m : MethodId) (args : Array Value) (meth : Method) (c : Code) : Prop :=
  p.tables.exec = Jvm.exec ∧ c.code = xcode M ∧ meth.sig.returnType = xret M ∧ c.maxLocals = xmaxL M ∧ s.vm.findClass (xown (xoc M)) = some m.cls ∧ (∀ w ∈ xT, w.before args s = true) ∧ meth.locks = false ∧ meth.name = (xy M).name ∧ xtb M c ∧ xC G s ∧ X s ∧ 12 ≤ xfr M ∧ 400 ≤ xlo M
def xZ (G : xG) (s : State) (h0 h : xH) (H : Heap) (locs : List Loc) : Prop :=
  (h0.1 ≤ h.1 ∧ h0.2.1 ≤ h.2.1 ∧ G.2.2.2.1.1 ≤ h0.1 ∧ s.heap.size = h0.1) ∧ (∀ q : Nat, q < G.2.2.2.1.1 → s.heap[q]? = G.2.2.2.2.1[q]?) ∧ (∀ z ∈ locs, G.2.2.2.1.1 ≤ z.base) ∧ xRel G h H
def xLoc (ls : Array Slot) (nL : Nat) (L : List (Option Value)) : Prop := ls.size = nL ∧ lv_wf ls ∧ L.length = nL ∧ ∀ (i : Nat) (v : Value), L[i]? = some (some v) → ls[i]? = some (.val v) ∧ v.category = 1
def xRm (G : xG) (M : Nat) (h0 : xH) : Room := { frames := xfr M, cells := G.2.2.2.1.1 + 601024 - h0.1, slots := 7293034 - h0.2.1, locals := xlo M }
def xQ (G : xG) (s : State) (h0 : xH) (out : xR) (o : Outcome) (t : State) : Prop := match out with
  | (.inl v, h') => o = .returned v ∧ (h0.1 ≤ h'.1 ∧ h0.2.1 ≤ h'.2.1) ∧ xRel G h' t.heap ∧ ∃ L, FrameEnd s o t L (h'.1 - h0.1) (h'.2.1 - h0.2.1) ∧ ∀ q ∈ L, G.2.2.2.1.1 ≤ q.base
  | (.inr E, h') => ∃ (q : Addr) (ce : Cell) (L : List Loc), o = .threw q ∧ (h0.1 ≤ h'.1 ∧ h0.2.1 ≤ h'.2.1) ∧ xRel G h' t.heap ∧ t.heap[q]? = some ce ∧ ce.vm = .none ∧ s.vm.findClass (xEn E) = some ce.cls ∧ s.WarmedH t.vm ∧ s.sameButNew ({ t with vm := s.vm } : State) L (h'.1 - h0.1) (h'.2.1 - h0.2.1) ∧ ∀ z ∈ L, G.2.2.2.1.1 ≤ z.base
def xMQ (G : xG) (below : List Frame) (s : State) (h0 : xH) (out : xR) : State → Prop := fun t => ∃ o, t.status = .running ∧ Ended t below o ∧ xQ G s h0 out o t
def xP (G : xG) (X : State → Prop) (l : Launch) : xPr := fun M pc L st h out => ∀ (p : Program) (e : Env) (s : State) (m : MethodId) (args : Array Value) (below : List Frame) (meth : Method) (c : Code) (H : Heap) (locs : List Loc) (ls : Array Slot) (h0 : xH),
  xB G X M p s m args meth c → xZ G s h0 h H locs → xLoc ls (xmaxL M) L →
  W p l e (xRm G M h0) s m args below meth c H locs (h.1 - h0.1) (h.2.1 - h0.2.1) (xMQ G below s h0 out) (F0 m pc ls st)
def xent (L : List (Option Value)) : List (Nat × Value) := (List.range L.length).filterMap (fun j => match L[j]? with | some (some v) => some (j, v) | _ => none)
theorem xent_mem {L : List (Option Value)} {j : Nat} {v : Value} : (j, v) ∈ xent L ↔ L[j]? = some (some v) := by
  unfold xent
  rw [List.mem_filterMap]
  constructor
  · rintro ⟨i, -, hi⟩
    split at hi
    · rename_i w hw
      cases hi
      exact hw
    · cases hi
  · intro h
    exact ⟨j, List.mem_range.mpr (List.getElem?_eq_some_iff.mp h).1, by simp [h]⟩
theorem xLoc_has {ls : Array Slot} {nL : Nat} {L : List (Option Value)} (h : xLoc ls nL L) : lv_has ls nL (xent L) := ⟨h.1, h.2.1, fun q hq => (h.2.2.2 q.1 q.2 (xent_mem.mp hq)).1⟩
theorem xLoc_set {ls ls' : Array Slot} {nL : Nat} {L : List (Option Value)} {i : Nat} {v : Value} (h : xLoc ls nL L) (hc : v.category = 1) (h' : lv_has ls' nL ((i, v) :: (xent L).filter (fun q => !(q.1 == i) && !(q.1 + 1 == i && q.2.category == 2)))) : xLoc ls' nL (L.set i (some v)) := by
  refine ⟨h'.1, h'.2.1, by rw [List.length_set]; exact h.2.2.1, fun j w hj => ?_⟩
  rw [List.getElem?_set] at hj
  by_cases e : i = j
  · subst e
    rw [if_pos rfl] at hj
    split at hj
    · cases hj
      exact ⟨h'.2.2 (i, v) List.mem_cons_self, hc⟩
    · cases hj
  · rw [if_neg e] at hj
    have h1 := (h.2.2.2 j w hj).2
    refine ⟨h'.2.2 (j, w) (List.mem_cons_of_mem _ (List.mem_filter.mpr ⟨xent_mem.mpr hj, ?_⟩)), h1⟩
    have : ¬ j = i := fun q => e q.symm
    simp [this, h1]
theorem xRel_obj {G : xG} {h : xH} {H : Heap} {a c : Nat} (hR : xRel G h H) (ho : xO h a c = true) : ∃ f : Nat → Value, h.2.2 a = some (.inl (c, f)) ∧ (∀ k, xg h a k = f k) ∧ c < 12 ∧ t_OB a (G.1 c) (xNf c) (G.2.1 c) H f := by
  unfold xO at ho
  split at ho
  · rename_i q hq
    obtain ⟨c', f⟩ := q
    have e : c' = c := by simpa using ho
    subst e
    obtain ⟨k1, k2⟩ := hR.2.2.2 a _ hq
    exact ⟨f, hq, fun k => by simp [xg, hq], k1, k2⟩
  · cases ho
theorem xRel_arr {G : xG} {h : xH} {H : Heap} {a t : Nat} (hR : xRel G h H) (ho : xA h a t = true) (ht : t < 4) : ∃ (n : Nat) (f : Nat → Value), h.2.2 a = some (.inr (t, n, f)) ∧ xl h a = n ∧ (∀ j, xe h a j = f j) ∧ t < 4 ∧ n < 2 ^ 31 ∧ H[a]? = some (arrV (G.2.2.1 t) n f) := by
  unfold xA at ho
  split at ho
  · rename_i q hq
    obtain ⟨t', n, f⟩ := q
    have e : t' = t := by simpa using ho
    subst e
    rcases hR.2.2.2 a _ hq with ⟨k1, k2, k3⟩ | ⟨k1, -⟩ | ⟨k1, -⟩
    · exact ⟨n, f, hq, by simp [xl, hq], fun k => by simp [xe, hq], k1, k2, k3⟩
    · simp only at k1; omega
    · simp only at k1; omega
  · cases ho
theorem xat_kept {G : xG} {a : Nat} {e : xE} {H H1 : Heap} (h : xat G a e H) (hq : H1[a]? = H[a]?) : xat G a e H1 := by
  cases e with
  | inl q => exact ⟨h.1, h.2.kept hq⟩
  | inr q =>
    rcases h with h | h
    · exact Or.inl ⟨h.1, h.2.1, by rw [hq]; exact h.2.2⟩
    · exact Or.inr h
theorem xat_lt {G : xG} {a : Nat} {e : xE} {H : Heap} (hb : G.2.2.2.1.1 ≤ H.size) (h : xat G a e H) : a < H.size := by
  cases e with
  | inl q => obtain ⟨-, cell, h2, -⟩ := h; exact (Array.getElem?_eq_some_iff.mp h2).1
  | inr q =>
    rcases h with h | h | h
    · exact (Array.getElem?_eq_some_iff.mp h.2.2).1
    · exact Nat.lt_of_lt_of_le h.2.1 hb
    · exact Nat.lt_of_lt_of_le h.2.1 hb
theorem xRel_put {G : xG} {h : xH} {H H1 : Heap} {a : Nat} {e : xE} (hR : xRel G h H) (hb : G.2.2.2.1.1 ≤ a) (hs : H1.size = H.size) (ho : ∀ q : Nat, q ≠ a → H1[q]? = H[q]?) (he : xat G a e H1) : xRel G (xpc h a e) H1 := by
  refine ⟨hs.trans hR.1, hR.2.1, fun q hq => by rw [ho q (by omega)]; exact hR.2.2.1 q hq, fun b e' hb' => ?_⟩
  simp only [xpc] at hb'
  by_cases e1 : b = a
  · subst e1
    rw [if_pos rfl] at hb'
    cases hb'
    exact he
  · rw [if_neg e1] at hb'
    exact xat_kept (hR.2.2.2 b e' hb') (ho b e1)
theorem xRel_new {G : xG} {h : xH} {H H1 : Heap} {n : Nat} {e : xE} (hR : xRel G h H) (hr : xrm G.2.2.2.1 h n = true) (hs : H1.size = h.1 + 1) (ho : ∀ q : Nat, q < h.1 → H1[q]? = H[q]?) (he : xat G h.1 e H1) : xRel G (xnw h n e) H1 := by
  simp only [xrm, decide_eq_true_eq] at hr
  refine ⟨hs, ⟨?_, hr.1, hr.2⟩, fun q hq => by rw [ho q (by have := hR.2.1.1; omega)]; exact hR.2.2.1 q hq, fun b e' hb' => ?_⟩
  · show _ ≤ h.1 + 1
    have := hR.2.1.1; omega
  · simp only [xnw] at hb'
    by_cases e1 : b = h.1
    · subst e1
      rw [if_pos rfl] at hb'
      cases hb'
      exact he
    · rw [if_neg e1] at hb'
      have h1 := hR.2.2.2 b e' hb'
      have := xat_lt (by rw [hR.1]; exact hR.2.1.1) h1
      exact xat_kept h1 (ho b (by rw [← hR.1]; exact this))
theorem xC_K {G : xG} {s : State} (h : xC G s) : va_K (G.1, G.2.1) xCls [] s := by
  refine ⟨fun c q hq => ?_, fun k q hk => by simp at hk⟩
  have hc : c < 12 := by
    have := (List.getElem?_eq_some_iff.mp hq).1
    simpa [xCls] using this
  have e := xcls_at c hc
  rw [hq] at e
  cases e
  exact h.1 c hc
/-- the world behind a step that keeps the heap -/
theorem xZ_put {G : xG} {s : State} {h0 h : xH} {H H1 : Heap} {locs : List Loc} {a : Nat} {e : xE} {z : Loc} (Z : xZ G s h0 h H locs) (hb : G.2.2.2.1.1 ≤ a) (hz : z.base = a) (hs : H1.size = H.size) (ho : ∀ q : Nat, q ≠ a → H1[q]? = H[q]?) (he : xat G a e H1) : xZ G s h0 (xpc h a e) H1 (locs ++ [z]) := by
  obtain ⟨z1, z2, z3, z4⟩ := Z
  refine ⟨z1, z2, fun w hw => ?_, xRel_put z4 hb hs ho he⟩
  rcases List.mem_append.mp hw with h | h
  · exact z3 w h
  · rw [List.mem_singleton.mp h, hz]; exact hb
theorem xZ_new {G : xG} {s : State} {h0 h : xH} {H H1 : Heap} {locs : List Loc} {n : Nat} {e : xE} (Z : xZ G s h0 h H locs) (hr : xrm G.2.2.2.1 h n = true) (hs : H1.size = h.1 + 1) (ho : ∀ q : Nat, q < h.1 → H1[q]? = H[q]?) (he : xat G h.1 e H1) : xZ G s h0 (xnw h n e) H1 locs := by
  obtain ⟨⟨z1, z1b, z1c, z1d⟩, z2, z3, z4⟩ := Z
  exact ⟨⟨Nat.le_succ_of_le z1, Nat.le_trans z1b (Nat.le_add_right _ _), z1c, z1d⟩, z2, z3, xRel_new z4 hr hs ho he⟩
theorem xroom_new {G : xG} {s : State} {h0 h : xH} {H : Heap} {locs : List Loc} {n M : Nat} (Z : xZ G s h0 h H locs) (hr : xrm G.2.2.2.1 h n = true) : h.1 - h0.1 + 1 ≤ (xRm G M h0).cells ∧ h.2.1 - h0.2.1 + n ≤ (xRm G M h0).slots := by
  simp only [xrm, decide_eq_true_eq] at hr
  obtain ⟨⟨z1, z1b, z1c, z1d⟩, -⟩ := Z
  show _ ≤ _ - _ ∧ _ ≤ _ - _
  omega
