section XF
variable {G : xG} {l : Launch} {M pc : Nat} {L : List (Option Value)} {st : List Value} {h : xH} {out : xR}
theorem xfrlo : ∀ M, M < 190 → 12 ≤ xfr M ∧ 400 ≤ xlo M ∧ xown (xoc M) = (xy M).cls := by decide +kernel
theorem xs_callV {k M' n c' : Nat} {q : Nat × List Value × List Value} {o : xR} (hd : decode (xcode M) pc = .ok (.invokevirtual k, 3)) (hm : xml (xoc M) k = some (0, M', n, c')) (hx : xcallV h M M' n c' st = some q) (k1 : xP G (xX2 G) l q.1 0 (xpad q.1 q.2.1) [] h o) (k2 : xaft (xP G (xX2 G) l) M pc L q.2.2 o out) : xP G (xX2 G) l M pc L st h out := by
  unfold xcallV at hx
  split at hx
  · rename_i As a r hp
    split at hx
    · rename_i hc
      cases hx
      obtain ⟨hlen, -, hst⟩ := xpop_in hp
      obtain ⟨ps, hw, hq⟩ := xml_ok hm
      simp only [xmq, Bool.and_eq_true, Bool.or_eq_true, decide_eq_true_eq] at hq
      obtain ⟨q1, q2, q3, q4, q5⟩ := hq
      have q6 : (xCls[c']?).map (fun r => r.1) = some (xy M').cls ∧ xhh M' = [] := by
        rcases q5 with q5 | q5 | q5
        · exact ⟨q5.2.1, q5.2.2⟩
        · cases q5
        · cases q5.1
      obtain ⟨hfr, hlo, how⟩ := xfrlo M' q4.1
      have hcw := xcw_ok M' q4.1 q4.2
      have hroom := hc.2
      simp only [xroom, decide_eq_true_eq] at hroom
      have hM := xMet_of (l := l) q1 how ⟨hfr, hlo⟩ hroom.2.2.2.2 hroom.2.2.2.1 k1
      intro p e s m args below meth c H locs ls h0 C Z hL T hT X
      have hts := C.2.2.2.2.2.1
      have hC := C.2.2.2.2.2.2.2.2.2.1
      have w1 := hts _ (hw _ (by simp [xmw] : Cond.methodLink (xown (xoc M)) k (xy M') ∈ _))
      have w2 := hts _ (hw _ (by simp [xmw] : Cond.instanceMethod (xy M') ∈ _))
      have w3 := hts _ (hw _ (by simp [xmw] : Cond.selects (xy M').cls (xy M') (xy M') ∈ _))
      have w4 := hts _ (hw _ (by simp [xmw] : Cond.initialized (xy M').cls ∈ _))
      obtain ⟨f, e1, e2, hc12, cell, g1, g2, g3, g4⟩ := xRel_obj Z.2.2.2 hc.1
      have hcls : s.vm.findClass (xy M').cls = some cell.cls := by
        have e9 := xcls_at c' hc12
        rw [e9] at q6
        simp only [Option.map_some, Option.some.injEq] at q6
        rw [← q6.1, g2]
        exact (hC.1 c' hc12).2.1
      obtain ⟨mk, methM, hnamed, hmethM, hstM, habM⟩ := Cond.instanceMethod_spec w2
      obtain ⟨mk2, meth2, cc2, n0, n1, -, -, -, -, -, -, hsig⟩ := xcw_spec (hts _ hcw)
      cases hnamed.symm.trans n0
      cases hmethM.symm.trans n1
      obtain ⟨c2, r2, m2, t1, t2, t3, t4, kP, hkP, hkPi⟩ := Cond.selects_spec w3
      cases hcls.symm.trans t1
      cases (State.methodFound?_of_named hnamed q2).symm.trans t2
      cases hnamed.symm.trans t3
      have hselP : selectMethod e.platform s.vm cell.cls mk = .method mk := by rw [Launch.admits_selectMethod X.admits]; exact t4
      have hn3 : As.length = methM.sig.parameters.length := by
        rw [hsig] at q3
        simp only [Option.map_some, Option.some.injEq] at q3
        rw [hlen, q3]; rfl
      obtain ⟨vm₁, X₁, hstep₁⟩ := X.invokevirtual C.1 C.2.2.2.2.1 w1 hnamed hmethM hstM hkP hkPi q2 (a := a) (cell := cell) (by rw [hT]; exact g1)
        (fun z h => by rw [g3] at h; cases h) hselP hmethM habM hkP hkPi (g := F0 m pc ls st) rfl (argsL := As) (rest := r) hn3 (by rw [hst]; rfl) (by rw [C.2.1]; exact hd)
      exact xs_after hM hc.2 k2 C Z hL w4 hcw hd hT X₁ (X₁.named hnamed) (fun target ht => hstep₁ _ fun acts => by rw [doInvoke_state]; exact ht)
    · cases hx
  · cases hx
theorem xs_callS {k M' n c' : Nat} {q : Nat × List Value × List Value} {o : xR} (hd : decode (xcode M) pc = .ok (.invokestatic k, 3)) (hm : xml (xoc M) k = some (1, M', n, c')) (hx : xcallS M M' n st = some q) (k1 : xP G (xX2 G) l q.1 0 (xpad q.1 q.2.1) [] h o) (k2 : xaft (xP G (xX2 G) l) M pc L q.2.2 o out) : xP G (xX2 G) l M pc L st h out := by
  unfold xcallS at hx
  split at hx
  · rename_i As r hp
    split at hx
    · rename_i hc
      cases hx
      obtain ⟨hlen, -, hst⟩ := xpop_in hp
      obtain ⟨ps, hw, hq⟩ := xml_ok hm
      simp only [xmq, Bool.and_eq_true, Bool.or_eq_true, decide_eq_true_eq] at hq
      obtain ⟨q1, q2, q3, q4, q5⟩ := hq
      obtain ⟨hfr, hlo, how⟩ := xfrlo M' q4.1
      have hcw := xcw_ok M' q4.1 q4.2
      have hroom := hc
      simp only [xroom, decide_eq_true_eq] at hroom
      have hM := xMet_of (l := l) q1 how ⟨hfr, hlo⟩ hroom.2.2.2.2 hroom.2.2.2.1 k1
      intro p e s m args below meth c H locs ls h0 C Z hL T hT X
      have hts := C.2.2.2.2.2.1
      have w1 := hts _ (hw _ (by simp [xmw] : Cond.methodLink (xown (xoc M)) k (xy M') ∈ _))
      have w2 := hts _ (hw _ (by simp [xmw] : Cond.static (xy M') ∈ _))
      have w4 := hts _ (hw _ (by simp [xmw] : Cond.initialized (xy M').cls ∈ _))
      obtain ⟨mk, methM, cc2, hnamed, hmethM, -, -, -, -, -, -, hsig⟩ := xcw_spec (hts _ hcw)
      have hstatic : methM.isStatic = true := Cond.static_spec hnamed hmethM w2
      obtain ⟨kP, hkP, -⟩ := className_of_methodNamed hnamed
      have hinitP : kP.init = .initialized := Cond.initialized_spec (findClass_of_methodNamed hnamed) hkP w4
      have hn3 : As.length = methM.sig.parameters.length := by
        rw [hsig] at q3
        simp only [Option.map_some, Option.some.injEq] at q3
        rw [hlen, q3]; rfl
      obtain ⟨vm₁, X₁, hstep₁⟩ := X.invokestatic C.1 C.2.2.2.2.1 w1 hnamed hmethM hstatic hkP hinitP q2 (g := F0 m pc ls st) rfl (argsL := As) (rest := r) hn3 (by rw [hst]; rfl) (by rw [C.2.1]; exact hd)
      exact xs_after hM hc k2 C Z hL w4 hcw hd hT X₁ (X₁.named hnamed) (fun target ht => hstep₁ _ fun acts => by rw [doInvoke_state]; exact ht)
    · cases hx
  · cases hx
theorem xs_callI {k M' n c' : Nat} {q : Nat × List Value × List Value} {o : xR} (hd : decode (xcode M) pc = .ok (.invokespecial k, 3)) (hm : xml (xoc M) k = some (2, M', n, c')) (hx : xcallI M M' n st = some q) (k1 : xP G (xX2 G) l q.1 0 (xpad q.1 q.2.1) [] h o) (k2 : xaft (xP G (xX2 G) l) M pc L q.2.2 o out) : xP G (xX2 G) l M pc L st h out := by
  unfold xcallI at hx
  split at hx
  · rename_i As a r hp
    split at hx
    · rename_i hc
      cases hx
      obtain ⟨hlen, -, hst⟩ := xpop_in hp
      obtain ⟨ps, hw, hq⟩ := xml_ok hm
      simp only [xmq, Bool.and_eq_true, Bool.or_eq_true, decide_eq_true_eq] at hq
      obtain ⟨q1, q2, q3, q4, q5⟩ := hq
      have q6 : (xy M').name = "<init>" ∧ xhh M' = [] ∧ xret M' = none := by
        rcases q5 with q5 | q5 | q5
        · cases q5.1
        · cases q5
        · exact ⟨q5.2.1, q5.2.2.1, q5.2.2.2⟩
      obtain ⟨hfr, hlo, how⟩ := xfrlo M' q4.1
      have hcw := xcw_ok M' q4.1 q4.2
      have hroom := hc
      simp only [xroom, decide_eq_true_eq] at hroom
      have hM := xMet_of (l := l) q1 how ⟨hfr, hlo⟩ hroom.2.2.2.2 hroom.2.2.2.1 k1
      intro p e s m args below meth c H locs ls h0 C Z hL T hT X
      have hts := C.2.2.2.2.2.1
      have w1 := hts _ (hw _ (by simp [xmw] : Cond.methodLink (xown (xoc M)) k (xy M') ∈ _))
      have w2 := hts _ (hw _ (by simp [xmw] : Cond.instanceMethod (xy M') ∈ _))
      have w4 := hts _ (hw _ (by simp [xmw] : Cond.initialized (xy M').cls ∈ _))
      have hcode : (Cond.code (xy M') (xcode M') (xmaxL M') none).before args s = true := by
        have := hts _ hcw
        unfold xcw at this
        rw [q6.2.1, q6.2.2] at this
        exact this
      have hlen3 : ∀ sig, parseMethodDescriptor (xy M').desc = some sig → As.length = sig.parameters.length := by
        intro sig hs
        rw [hs] at q3
        simp only [Option.map_some, Option.some.injEq] at q3
        rw [hlen, q3]; rfl
      have hpl : e.platform.magicAccessors = ({} : Platform).magicAccessors := by rw [X.admits.platform]
      obtain ⟨mk, methM, cM, kP, vm₁, hnamed, hmethM, hcodeM, -, hlocalsM, -, hkP, -, hW₁, hstep₁⟩ := Steps.initColdArgs (e := e) X.here C.1 X.warmed hpl C.2.2.2.2.1 q6.1 q2 w1 w2 hcode (f := F0 m pc ls st) rfl (a := a) (argsL := As) (rest := r) hlen3 (by rw [hst]; rfl) (by rw [C.2.1]; exact hd)
      have X₁ := X.noted hW₁
      exact xs_after hM hc k2 C Z hL w4 hcw hd hT X₁ (X₁.named hnamed) (fun target ht => hstep₁ _ fun acts => by rw [doInvoke_state]; exact ht)
    · cases hx
  · cases hx
/-- the places of the throws, checked -/
def xthd (q : Nat × Nat × Nat × Nat × Nat × Nat × Bool) : Bool := match q with
  | (M, pc, E, ik, is, ic, w) => decide (decode (xcode M) pc = .ok (.new ik, 3)) && (decide (decode (xcode M) (pc + 3) = .ok (.dup, 1)) && (decide (decode (xcode M) (pc + 4) = (if w then .ok (.ldc_w is, 3) else .ok (.ldc is, 2))) && (decide (decode (xcode M) (pc + 4 + (if w then 3 else 2)) = .ok (.invokespecial ic, 3)) && (decide (decode (xcode M) (pc + 4 + (if w then 3 else 2) + 3) = .ok (.athrow, 1)) && (decide (xown (xoc M) = "PilotStation") && (decide (xhh M = []) && decide (E < 3)))))))
theorem xth_dec : xthT.all xthd = true := by decide +kernel
theorem xfit_E : ∀ E, E < 3 → Bundle.fit (xEn E) = true := by decide +kernel
theorem xs_thr (hl : l.stackTraces = false) {E : Nat} (ht : xth M pc = some E) (hs : st = []) (hr : xrm G.2.2.2.1 h 6 = true) : xP G (xX2 G) l M pc L st h (.inr E, (h.1 + 1, h.2.1 + 6, h.2.2)) := by
  subst hs
  unfold xth at ht
  cases hf : xthT.find? (fun q => q.1 == M && q.2.1 == pc) with
  | none => rw [hf] at ht; cases ht
  | some q =>
    rw [hf] at ht
    have hm := List.mem_of_find?_eq_some hf
    have hp := List.find?_some hf
    have ho := List.all_eq_true.mp xth_dec q hm
    have hw1 := List.all_eq_true.mp (List.all_eq_true.mp xth_w1 q hm)
    obtain ⟨M0, pc0, E0, ik, is, ic, w⟩ := q
    simp only [Option.map_some, Option.some.injEq, Bool.and_eq_true, beq_iff_eq] at ht hp
    obtain ⟨rfl, rfl⟩ := hp
    subst ht
    simp only [xthd, Bool.and_eq_true, decide_eq_true_eq] at ho
    obtain ⟨d0, d3, d4, d6, d9, o1, o2, o3⟩ := ho
    intro p e s m args below meth c H locs ls h0 C Z hL
    have hX := C.2.2.2.2.2.2.2.2.2.2.1
    obtain ⟨⟨hU, hN, hT⟩, -, -⟩ := hX
    obtain ⟨⟨tx, sa, hv⟩, hws⟩ := hT _ hm
    have hown := C.2.2.2.2.1
    rw [o1] at hown
    have hot : ∀ u ∈ xthw (M0, pc0, E0, ik, is, ic, w), vx_ot u = true := fun u hu => by
      have := hw1 u hu
      simp only [Bool.and_eq_true] at this
      exact this.2
    have hbe : ∀ u ∈ xthw (M0, pc0, E0, ik, is, ic, w), u.before args s = true := fun u hu => vx_ot_at (State.WarmedH.refl s) rfl (hot u hu) (hws u hu)
    have hout : ∀ x ∈ c.exceptionTable.toList, ∀ z : Nat, covers x z = false := by
      have htb := C.2.2.2.2.2.2.2.2.1
      unfold xtb at htb
      rw [o2] at htb
      rw [htb]
      intro x hx
      cases hx
    have hb := C.2.2.2.2.2.2.2.2.2.2.2
    cases w with
    | false =>
      refine xt_throw (d := 2) (names := ["java/lang/RuntimeException", "java/lang/Exception"]) (ldi := .ldc is) C.1 C.2.1 hl hown (xfit_E _ o3) (by decide +kernel) (hbe _ (by simp [xthw])) (hbe _ (by simp [xthw])) hv (fun w hw => hbe w (List.mem_cons_of_mem _ (List.mem_cons_of_mem _ hw))) (fun w hw => hot w hw) hU hN C.2.2.2.2.2.2.2.2.2.1.2.2.2.2.2.2.2.2.1 (by rw [C.2.2.2.1]; exact hL.1) d0 d3 d6 d9 ?_ (fun x hx => hout x hx _) (by show 2 + 3 < xfr M0; omega) (by show 13 * (2 + 1) + 43 ≤ xlo M0; omega) C.2.2.2.2.2.2.1 Z hr
      intro R' s' T' locs' k' n' X' ho' hv' st tg hst
      have d4' : decode c.code (pc0 + 4) = .ok (.ldc is, 2) := by rw [C.2.1]; exact d4
      exact X'.ldcString C.1 (own := "PilotStation") (text := tx) (index := is) (a := sa) ho' hv'.1 hv'.2 (g := F0 m (pc0 + 4) ls st) rfl d4' _ hst
    | true =>
      refine xt_throw (d := 3) (names := ["java/lang/RuntimeException", "java/lang/Exception"]) (ldi := .ldc_w is) C.1 C.2.1 hl hown (xfit_E _ o3) (by decide +kernel) (hbe _ (by simp [xthw])) (hbe _ (by simp [xthw])) hv (fun w hw => hbe w (List.mem_cons_of_mem _ (List.mem_cons_of_mem _ hw))) (fun w hw => hot w hw) hU hN C.2.2.2.2.2.2.2.2.2.1.2.2.2.2.2.2.2.2.1 (by rw [C.2.2.2.1]; exact hL.1) d0 d3 d6 d9 ?_ (fun x hx => hout x hx _) (by show 2 + 3 < xfr M0; omega) (by show 13 * (2 + 1) + 43 ≤ xlo M0; omega) C.2.2.2.2.2.2.1 Z hr
      intro R' s' T' locs' k' n' X' ho' hv' st tg hst
      have d4' : decode c.code (pc0 + 4) = .ok (.ldc_w is, 3) := by rw [C.2.1]; exact d4
      exact X'.ldcStringW C.1 (own := "PilotStation") (text := tx) (index := is) (a := sa) ho' hv'.1 hv'.2 (g := F0 m (pc0 + 4) ls st) rfl d4' _ hst
/-- THE SMALL MACHINE IS SOUND -/
theorem xsound (hl : l.stackTraces = false) (hE : Ev G.2.2.2.1 M pc L st h out) : xP G (xX2 G) l M pc L st h out := by
  refine hE (xP G (xX2 G) l) ?_
  intro M pc L st h out hx
  unfold xSt at hx
  cases hd : decode (xcode M) pc with
  | error z => rw [hd] at hx; exact hx.elim
  | ok iq =>
    obtain ⟨i, len⟩ := iq
    rw [hd] at hx
    obtain ⟨hlen, hx⟩ := hx
    simp only at hlen hx
    unfold xStI at hx
    cases h1 : xth M pc with
    | some E =>
      rw [h1] at hx
      obtain ⟨e1, e2, rfl⟩ := hx
      exact xs_thr hl h1 e1 e2
    | none =>
      rw [h1] at hx
      simp only at hx
      cases h2 : xrt M i st with
      | some v =>
        rw [h2] at hx
        simp only at hx
        subst hx
        exact xs_ret hd hlen h2
      | none =>
        rw [h2] at hx
        simp only at hx
        cases h3 : xcall M i st h with
        | some q =>
          rw [h3] at hx
          obtain ⟨o, k1, k2⟩ := hx
          unfold xcall at h3
          split at h3
          · split at h3
            · rename_i hm
              have e : len = 3 := by simpa [xlen] using hlen
              subst e
              exact xs_callV hd hm h3 k1 k2
            · cases h3
          · split at h3
            · rename_i hm
              have e : len = 3 := by simpa [xlen] using hlen
              subst e
              exact xs_callS hd hm h3 k1 k2
            · cases h3
          · split at h3
            · rename_i hm
              have e : len = 3 := by simpa [xlen] using hlen
              subst e
              exact xs_callI hd hm h3 k1 k2
            · cases h3
          · cases h3
        | none =>
          rw [h3] at hx
          simp only at hx
          cases h4 : xnx G.2.2.2.1 M pc i L st h with
          | some q =>
            rw [h4] at hx
            exact xnx_ok hd hlen h4 hx
          | none => rw [h4] at hx; exact hx.elim
end XF
