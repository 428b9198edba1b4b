/-! ===== the small machine's runs are the machine's ===== -/
theorem xC_warm {G : xG} {s U : State} (hW : s.WarmedH U.vm) (h : xC G s) : xC G U := by
  obtain ⟨h1, h2, h3, h4, h5, h6, h7, h8, h9, h10, cell, h11, h12, h13⟩ := h
  exact ⟨fun c hc => u_Kn_moved hW.alike (h1 c hc), fun t ht => ⟨by rw [hW.alike.findClass]; exact (h2 t ht).1, arrOfT_moved hW.alike (h2 t ht).2⟩, h3.moved hW.alike, va_Mi.moved hW.alike h4, va_AO.moved hW.alike h5, va_Dc.moved hW.alike h6, fun c hc => va_Nw.warmC hW (h7 c hc), va_Z.moved hW.alike h8, h9, va_X.moved hW.alike h10, cell, h11, State.isArrayOf_alike hW.alike h12, h13⟩
def xw1 (w : Cond) : Bool := goodWord w || (match w with | .castable _ _ => true | .declares _ => true | _ => false)
theorem xw1_warm {s U : State} {w : Cond} (hw : xw1 w = true) (hW : s.WarmedH U.vm) (h : w.before #[] s = true) : w.before #[] U = true := by
  simp only [xw1, Bool.or_eq_true] at hw
  rcases hw with hw | hw
  · exact word_at hW (good_of_word hw) h
  · cases w with
    | castable C T => exact va_Nw.warmC hW h
    | declares x => exact va_Nw.warmD hW h
    | _ => cases hw
def xthw (q : Nat × Nat × Nat × Nat × Nat × Nat × Bool) : List Cond := Cond.classLink "PilotStation" q.2.2.2.1 (xEn q.2.2.1) :: Cond.initialized (xEn q.2.2.1) :: vx_atS "PilotStation" q.2.2.2.2.2.1 (xEn q.2.2.1) ["java/lang/RuntimeException", "java/lang/Exception"]
theorem xth_w1 : xthT.all (fun q => (xthw q).all (fun w => xw1 w && vx_ot w)) = true := by decide +kernel
/-- what throws and their catching need of a state -/
def xX2 (G : xG) (U : State) : Prop := xX G U ∧ (∀ a b, a < 3 → b < 3 → a ≠ b → va_Nc (xEn a) (xEn b) U) ∧ ∀ a, a < 3 → va_Nw (.castable (xEn a) (xEn a)) U
theorem xX2_warm {G : xG} {s U : State} (hW : s.WarmedH U.vm) (h : xX2 G s) : xX2 G U := by
  obtain ⟨⟨h1, h2, h3⟩, h4, h5⟩ := h
  refine ⟨⟨vx_Zq.moved hW.alike h1, vx_Zq.moved hW.alike h2, fun q hq => ⟨?_, fun w hw => ?_⟩⟩, fun a b ha hb hab => va_Nc.moved hW.alike (h4 a b ha hb hab), fun a ha => va_Nw.warmC hW (h5 a ha)⟩
  · obtain ⟨tx, sa, hv⟩ := (h3 q hq).1
    exact ⟨tx, sa, vk_R.warm hW hv⟩
  · have := List.all_eq_true.mp (List.all_eq_true.mp xth_w1 q hq) w hw
    simp only [Bool.and_eq_true] at this
    exact xw1_warm this.1 hW ((h3 q hq).2 w hw)
theorem W_mono {p : Program} {l : Launch} {e : Env} {R : Room} {s : State} {m : MethodId} {args : Array Value} {below : List Frame} {meth : Method} {c : Code} {H : Heap} {locs : List Loc} {cells slots : Nat} {Q Q' : State → Prop} {g : JFrame} (h : ∀ t, Q t → Q' t) (k : W p l e R s m args below meth c H locs cells slots Q g) : W p l e R s m args below meth c H locs cells slots Q' g := fun T hT X => by
  obtain ⟨t, a, b⟩ := k T hT X
  exact ⟨t, a, h t b⟩
section XS
variable {G : xG} {X : State → Prop} {l : Launch} {M pc : Nat} {L : List (Option Value)} {st : List Value} {h : xH} {out : xR}
theorem xret_fin {below : List Frame} {args : Array Value} {s : State} {h0 : xH} {v : Option Value} (hm : h0.1 ≤ h.1 ∧ h0.2.1 ≤ h.2.1) : ∀ t : State, MQ below (fun _ _ o t => o = .returned v ∧ xRel G h t.heap) args s (h.1 - h0.1) (h.2.1 - h0.2.1) (fun q => G.2.2.2.1.1 ≤ q) t → xMQ G below s h0 (.inl v, h) t := by
  rintro t ⟨o, h1, h2, ⟨h3, h4⟩, L, h5, h6⟩
  exact ⟨o, h1, h2, h3, hm, h4, L, h5, h6⟩
theorem xs_ret {i : Instr} {len : Nat} {v : Option Value} (hd : decode (xcode M) pc = .ok (i, len)) (hl : xlen i len = true) (hx : xrt M i st = some v) : xP G X l M pc L st h (.inl v, h) := by
  intro p e s m args below meth c H locs ls h0 C Z hL
  have hm : h0.1 ≤ h.1 ∧ h0.2.1 ≤ h.2.1 := ⟨Z.1.1, Z.1.2.1⟩
  have hrel : ∀ t : State, t.heap = H → xRel G h t.heap := fun t ht => by rw [ht]; exact Z.2.2.2
  have hlocks := C.2.2.2.2.2.2.1
  cases i with
  | ireturn =>
    have e : len = 1 := by simpa [xlen] using hl
    subst e
    simp only [xrt] at hx
    split at hx
    · rename_i hr
      cases hx
      refine W_mono (xret_fin (args := args) hm) (W.iret C.1 C.2.1 (C.2.2.1.trans hr) (fun t ht _ => ⟨rfl, hrel t ht⟩) Z.2.2.1 hd hlocks)
    · rename_i x hr
      split at hx
      · rename_i hv
        cases hx
        have hn : narrow .boolean (.int x) = .int x := by rcases hv with rfl | rfl <;> decide +kernel
        refine W_mono (xret_fin (args := args) hm) (W.zret C.1 C.2.1 (C.2.2.1.trans hr) hn (fun t ht _ => ⟨rfl, hrel t ht⟩) Z.2.2.1 hd hlocks)
      · cases hx
    · cases hx
  | areturn =>
    have e : len = 1 := by simpa [xlen] using hl
    subst e
    simp only [xrt] at hx
    split at hx
    · rename_i n v0 hr
      split at hx
      · rename_i hv
        cases hx
        obtain ⟨r, rfl⟩ := xrd_in hv
        refine W_mono (xret_fin (args := args) hm) (W.aret C.1 C.2.1 (C.2.2.1.trans hr) (Or.inl ⟨_, rfl⟩) (by cases r; exact Or.inl rfl; exact Or.inr ⟨_, rfl⟩) (fun t ht _ => ⟨rfl, hrel t ht⟩) Z.2.2.1 hd hlocks)
      · cases hx
    · rename_i n v0 hr
      split at hx
      · rename_i hv
        cases hx
        obtain ⟨r, rfl⟩ := xrd_in hv
        refine W_mono (xret_fin (args := args) hm) (W.aret C.1 C.2.1 (C.2.2.1.trans hr) (Or.inr ⟨_, rfl⟩) (by cases r; exact Or.inl rfl; exact Or.inr ⟨_, rfl⟩) (fun t ht _ => ⟨rfl, hrel t ht⟩) Z.2.2.1 hd hlocks)
      · cases hx
    · cases hx
  | return_ =>
    have e : len = 1 := by simpa [xlen] using hl
    subst e
    simp only [xrt] at hx
    split at hx
    · rename_i hr
      cases hx
      refine W_mono (xret_fin (args := args) hm) (W.vret C.1 C.2.1 (C.2.2.1.trans hr) (fun t ht _ => ⟨rfl, hrel t ht⟩) Z.2.2.1 hd hlocks)
    · cases hx
  | _ => cases hx
theorem xpop_in : ∀ {n : Nat} {acc st As r : List Value}, xpop n acc st = some (As, r) → As.length = n + acc.length ∧ acc.reverse ++ r = (acc.reverse ++ r) ∧ As.reverse ++ r = acc.reverse ++ st
  | 0, acc, st, As, r, h => by simp only [xpop, Option.some.injEq, Prod.mk.injEq] at h; obtain ⟨rfl, rfl⟩ := h; exact ⟨by simp, rfl, rfl⟩
  | n + 1, acc, [], As, r, h => by simp [xpop] at h
  | n + 1, acc, v :: st, As, r, h => by
    simp only [xpop] at h
    obtain ⟨h1, -, h2⟩ := xpop_in h
    refine ⟨by rw [h1]; simp; omega, rfl, ?_⟩
    rw [h2]; simp
theorem xcov {x : ExceptionTableEntry} {pc : Nat} : covers x pc = true ↔ x.startPc ≤ pc ∧ pc < x.endPc := by
  simp [covers]
theorem xhh_12 : ∀ M, xhh M = [] ∨ xoc M = 12 := by
  intro M
  by_cases hM : M < 190
  · revert M
    decide +kernel
  · left
    have h1 : xMs.length = 190 := by decide +kernel
    have h2 : xMs[M]? = none := List.getElem?_eq_none (by omega)
    simp [xhh, xm, List.getD_eq_getElem?_getD, h2]
theorem xhc_ok : ∀ k E, xhc k = some E → E < 3 ∧ k ≠ 0 ∧ Cond.classLink (xown 12) k (xEn E) ∈ xT := by
  intro k E h
  unfold xhc at h
  split at h
  all_goals first | (cases h; refine ⟨by decide, by decide, ?_⟩) | cases h
  · exact xck_mem (ws := [Cond.classLink (xown 12) 13 (xEn 0)]) (is := [680]) (by decide +kernel) _ List.mem_cons_self
  · exact xck_mem (ws := [Cond.classLink (xown 12) 15 (xEn 2)]) (is := [681]) (by decide +kernel) _ List.mem_cons_self
  · exact xck_mem (ws := [Cond.classLink (xown 12) 21 (xEn 1)]) (is := [796]) (by decide +kernel) _ List.mem_cons_self
theorem xhh_some : ∀ M, ∀ q ∈ xhh M, ∃ E, xhc q.2.2.2 = some E := by
  intro M
  by_cases hM : M < 190
  · have h : ∀ M, M < 190 → ∀ q ∈ xhh M, (xhc q.2.2.2).isSome = true := by decide +kernel
    intro q hq
    exact Option.isSome_iff_exists.mp (h M hM q hq)
  · have : xhh M = [] := by
      have h1 : xMs.length = 190 := by decide +kernel
      have h2 : xMs[M]? = none := List.getElem?_eq_none (by omega)
      simp [xhh, xm, List.getD_eq_getElem?_getD, h2]
    rw [this]
    intro q hq
    cases hq
/-- behind the callee's frame: the caller goes on, or lets the exception through, or catches it -/
theorem xs_after {M' : Nat} {As r : List Value} {o : xR} (hM : xMet G (xX2 G) l M' As h o) (hroom : xroom M M' As r = true) (ha : xaft (xP G (xX2 G) l) M pc L r o out)
    {p : Program} {e : Env} {s : State} {m : MethodId} {args : Array Value} {below : List Frame} {meth : Method} {c : Code} {H : Heap} {locs : List Loc} {ls : Array Slot} {h0 : xH} (C : xB G (xX2 G) M p s m args meth c) (Z : xZ G s h0 h H locs) (hL : xLoc ls (xmaxL M) L)
    (hini : (Cond.initialized (xy M').cls).before args s = true) (hcw : xcw M' ∈ xT) {ig : Instr} (hdg : decode (xcode M) pc = .ok (ig, 3)) {T : State} (hT : T.heap = H) {vm₁ : Vm} {mk : MethodId} (Y : Stand p l e (xRm G M h0) s m args below meth c (T.setVm vm₁) locs (h.1 - h0.1) (h.2.1 - h0.2.1)) (hn : (T.setVm vm₁).methodNamed? (xy M') = some mk)
    (hst : ∀ target, Steps p.tables e below (doInvoke e ((T.setVm vm₁).setTop (F0 m pc ls r)) [] mk As.toArray).1 target → Steps p.tables e below (T.setTop (F0 m pc ls st)) target) :
    ∃ t, Steps p.tables e below (T.setTop (F0 m pc ls st)) t ∧ xMQ G below s h0 out t := by
  simp only [xroom, decide_eq_true_eq] at hroom
  obtain ⟨r1, r2, r3, r4, r5⟩ := hroom
  have hC := C.2.2.2.2.2.2.2.2.2.1
  have hX := C.2.2.2.2.2.2.2.2.2.2.1
  have hts := C.2.2.2.2.2.1
  have hz := Z.1
  have hrel := Z.2.2.2
  have hb2 := hrel.2.1
  have hgood : ∀ w ∈ xcw M' :: xT, ∀ (a' : Array Value) (U : State), s.WarmedH U.vm → w.before a' U = true := by
    intro w hw a' U hU
    have hw2 : w ∈ xT := (List.mem_cons.mp hw).elim (fun q => by rw [q]; exact hcw) id
    exact word_at hU (good_of_word (List.mem_filter.mp hw2).2) (hts w hw2)
  have hcell : h.1 - h0.1 + (xRm G M' h).cells ≤ (xRm G M h0).cells := by
    show _ + (_ - _) ≤ _ - _
    omega
  have hslot : h.2.1 - h0.2.1 + (xRm G M' h).slots ≤ (xRm G M h0).slots := by
    show _ + (_ - _) ≤ _ - _
    omega
  have hB := xk_back (G := G) (X := xX2 G) (o := o) hM (fun U hU => ⟨xC_warm hU hC, xX2_warm hU hX⟩) hgood (fun a' U hU => word_at hU (Or.inl (by first | rfl | simp [Cond.onTables, Cond.keeps, Cond.steady])) hini) Y (g := F0 m pc ls r) rfl (by rw [C.2.2.2.1]; exact hL.1) (by rw [C.2.1]; exact hdg) r1 r2 hcell hslot (by show 2 * 0 + (r.map fun v => v.category).sum ≤ 8; omega) hn (by show T.heap.size = h.1; rw [hT]; exact hrel.1) (by show xRel G h T.heap; rw [hT]; exact hrel)
  obtain ⟨v | E, h1⟩ := o
  · obtain ⟨U', L', Y', hmo, hR', hL', hsteps⟩ := hB
    have K := ha p e s m args below meth c U'.heap (locs ++ L') ls h0 C ⟨⟨by omega, by omega, hz.2.2.1, hz.2.2.2⟩, Z.2.1, fun z hz => (List.mem_append.mp hz).elim (Z.2.2.1 z) (hL' z), hR'⟩ hL
    rw [show h.1 - h0.1 + (h1.1 - h.1) = h1.1 - h0.1 by omega, show h.2.1 - h0.2.1 + (h1.2.1 - h.2.1) = h1.2.1 - h0.2.1 by omega] at Y'
    obtain ⟨t, a1, b1⟩ := K U' rfl Y'
    exact ⟨t, hst _ (hsteps.trans a1), b1⟩
  · obtain ⟨U', L', q, ce, Y', hmo, hR', hL', hce, hcv, hcl, hsteps⟩ := hB
    rw [show h.1 - h0.1 + (h1.1 - h.1) = h1.1 - h0.1 by omega, show h.2.1 - h0.2.1 + (h1.2.1 - h.2.1) = h1.2.1 - h0.2.1 by omega] at Y'
    have hLL : ∀ z ∈ locs ++ L', G.2.2.2.1.1 ≤ z.base := fun z hz => (List.mem_append.mp hz).elim (Z.2.2.1 z) (hL' z)
    simp only [xaft] at ha
    have htb := C.2.2.2.2.2.2.2.2.1
    unfold xtb at htb
    cases hh : xhh M with
    | nil =>
      rw [hh] at ha htb
      simp only at ha
      subst ha
      have hout : ∀ x ∈ c.exceptionTable.toList, covers x (F0 m pc ls r).pc = false := by rw [htb]; intro x hx; cases hx
      obtain ⟨st1, hrun, hend, hW, hsm⟩ := Y'.leaveThrown q (g := F0 m pc ls r) rfl rfl rfl hout C.2.2.2.2.2.2.1
      exact ⟨_, hst _ (hsteps.trans st1), .threw q, hrun, hend, q, ce, locs ++ L', rfl, ⟨by omega, by omega⟩, hR', hce, hcv, hcl, hW, hsm, hLL⟩
    | cons q0 qs =>
      have hoc : xoc M = 12 := (xhh_12 M).resolve_left (by rw [hh]; exact fun z => by cases z)
      rw [hh] at ha
      simp only at ha
      cases hf : xhd M pc E with
      | none => rw [hf] at ha; exact ha.elim
      | some tp =>
        rw [hf] at ha
        simp only at ha
        unfold xhd at hf
        cases hf2 : (xhh M).find? (fun q => decide (q.1 ≤ pc) && (decide (pc < q.2.1) && decide (xhc q.2.2.2 = some E))) with
        | none => rw [hf2] at hf; cases hf
        | some w =>
          rw [hf2] at hf
          cases hf
          obtain ⟨hw, pre, suf, hsp, hpre⟩ := List.find?_eq_some_iff_append.mp hf2
          simp only [Bool.and_eq_true, decide_eq_true_eq] at hw
          obtain ⟨e1, e2, e3⟩ := xhc_ok _ _ hw.2.2
          have hpl : e.platform.magicAccessors = ({} : Platform).magicAccessors := by rw [Y.admits.platform]
          have hown := C.2.2.2.2.1
          rw [hoc] at hown
          obtain ⟨kT, hkT, hlkT⟩ := Cond.classLink_spec hown (hts _ e3) e.platform hpl
          obtain ⟨c3, c4, hc3, hc4, hasg⟩ := Cond.castable_spec (va_Nw.use (A := args) rfl (hX.2.2 E e1))
          cases Option.some.inj (hc3.symm.trans hcl)
          cases Option.some.inj (hc4.symm.trans hkT)
          have hsplit : c.exceptionTable.toList = (pre.map (fun q => ({ startPc := q.1, endPc := q.2.1, handlerPc := q.2.2.1, catchType := q.2.2.2 } : ExceptionTableEntry))) ++ { startPc := w.1, endPc := w.2.1, handlerPc := w.2.2.1, catchType := w.2.2.2 } :: (suf.map (fun q => ({ startPc := q.1, endPc := q.2.1, handlerPc := q.2.2.1, catchType := q.2.2.2 } : ExceptionTableEntry))) := by
            rw [htb, hsp]; simp
          have hk0 : ∃ k9, s.vm.classes[ce.cls]? = some k9 := by obtain ⟨k9, h9, -⟩ := Vm.findClass_spec hcl; exact ⟨k9, h9⟩
          obtain ⟨vm', Y2, st2⟩ := xc_caught Y' q (g := F0 m pc ls r) rfl hce hcv hk0 hsplit (fun y hy => by
            obtain ⟨z, hz1, rfl⟩ := List.mem_map.mp hy
            have hn1 := hpre z hz1
            obtain ⟨E2, hE2⟩ := xhh_some M z (by rw [hsp]; exact List.mem_append_left _ hz1)
            obtain ⟨f1, f2, f3⟩ := xhc_ok _ _ hE2
            by_cases hcv2 : z.1 ≤ pc ∧ pc < z.2.1
            · right
              refine ⟨f2, ?_⟩
              have hne : E ≠ E2 := by
                intro hq
                subst hq
                simp [hcv2.1, hcv2.2, hE2] at hn1
              obtain ⟨k6, hk6, hl6⟩ := Cond.classLink_spec hown (hts _ f3) e.platform hpl
              obtain ⟨a8, b8, g1, g2, g3⟩ := hX.2.1 E E2 e1 f1 hne
              cases Option.some.inj (g1.symm.trans hcl)
              cases Option.some.inj (g2.symm.trans hk6)
              exact ⟨_, hl6, g3⟩
            · left
              cases hq : covers ({ startPc := z.1, endPc := z.2.1, handlerPc := z.2.2.1, catchType := z.2.2.2 } : ExceptionTableEntry) (F0 m pc ls r).pc with
              | false => rfl
              | true => exact absurd (xcov.mp hq) hcv2) (xcov.mpr ⟨hw.1, hw.2.1⟩) e2 hlkT hasg
          have K := ha q p e s m args below meth c U'.heap (locs ++ L') ls h0 C ⟨⟨by omega, by omega, hz.2.2.1, hz.2.2.2⟩, Z.2.1, hLL, hR'⟩ hL
          obtain ⟨t, a1, b1⟩ := K (U'.setVm vm') rfl Y2
          exact ⟨t, hst _ (hsteps.trans (st2 _ a1)), b1⟩
end XS
