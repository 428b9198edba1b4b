section XH
variable {G : xG} {X : State → Prop} {l : Launch} {M pc : Nat} {L : List (Option Value)} {st : List Value} {h : xH} {out : xR}
theorem xpf_eq {h : xH} {a c : Nat} {f : Nat → Value} (k : Nat) (v : Value) (e : h.2.2 a = some (.inl (c, f))) : xpf h a k v = xpc h a (.inl (c, updV f k v)) := by simp [xpf, e]
theorem xpe_eq {h : xH} {a t n : Nat} {f : Nat → Value} (k : Nat) (v : Value) (e : h.2.2 a = some (.inr (t, n, f))) : xpe h a k v = xpc h a (.inr (t, n, updV f k v)) := by simp [xpe, e]
/-- the link of a field, the field found -/
theorem xs_fld {s : State} {args : Array Value} {a b c k : Nat} (hts : ∀ w ∈ xT, w.before args s = true) (hC : xC G s) (hf : xfl a b = some (c, k)) :
    c < 12 ∧ k < xNf c ∧ ∃ ref : String, (Cond.fieldLink (xown a) b ref (xfd c k).2.1 (xfd c k).2.2.1).before args s = true ∧ ∀ x, s.fieldFound? (xfd c k).1 (xfd c k).2.1 (xfd c k).2.2.1 = some x → s.fieldFound? ref (xfd c k).2.1 (xfd c k).2.2.1 = some x := by
  obtain ⟨h1, h2, h3⟩ := xfl_ok hf
  refine ⟨h1, h2, ?_⟩
  rcases h3 with h3 | ⟨h3, h4⟩
  · exact ⟨_, hts _ h3, fun x hx => hx⟩
  · exact ⟨_, hts _ h3, u_same (hts _ h4)⟩
theorem xs_getf {k c j a : Nat} {r : List Value} (hd : decode (xcode M) pc = .ok (.getfield k, 3)) (hf : xfl (xoc M) k = some (c, j)) (ho : xO h a c = true) (kk : xP G X l M (pc + 3) L (xg h a j :: r) h out) : xP G X l M pc L (.ref a :: r) h out := by
  intro p e s m args below meth cd H locs ls h0 C Z hL
  have K := kk p e s m args below meth cd H locs ls h0 C Z hL
  obtain ⟨hexec, hb, -, -, hown, hts, -, -, -, hC, -⟩ := C
  obtain ⟨h1, h2, ref, hlink, hsame⟩ := xs_fld hts hC hf
  obtain ⟨f, e1, e2, -, cell, q1, q2, q3, q4⟩ := xRel_obj Z.2.2.2 ho
  obtain ⟨hS, hfc, kC, hkC, hkind⟩ := hC.1 c h1
  obtain ⟨cf, kf, fi, fd, hi, hsl⟩ := hS j h2
  refine W.getf hexec hb hown hlink (hsame _ hi) (u_facts hfc hkC (u_lays hts (xws_in c h1) h2) hi).1 q1 (by rw [q3]; exact fun h => by cases h) (v := xg h a j) ?_ rfl rfl hd K
  rw [hsl, q4 j h2, e2]
theorem xs_putf {k c j a : Nat} {v : Value} {r : List Value} (hd : decode (xcode M) pc = .ok (.putfield k, 3)) (hf : xfl (xoc M) k = some (c, j)) (ho : xO h a c = true) (hv : xfit (xft c j) v = true) (hw : xwr M c j = true) (hb0 : G.2.2.2.1.1 ≤ a) (kk : xP G X l M (pc + 3) L r (xpf h a j v) out) : xP G X l M pc L (v :: .ref a :: r) h out := by
  intro p e s m args below meth cd H locs ls h0 C Z hL
  have C0 := C
  obtain ⟨hexec, hb, -, -, hown, hts, -, hnm, -, hC, -⟩ := C
  obtain ⟨h1, h2, ref, hlink, hsame⟩ := xs_fld hts hC hf
  obtain ⟨f, e1, e2, -, cell, q1, q2, q3, q4⟩ := xRel_obj Z.2.2.2 ho
  obtain ⟨hS, hfc, kC, hkC, hkind⟩ := hC.1 c h1
  obtain ⟨cf, kf, fi, fd, hi, hsl⟩ := hS j h2
  have hap := va_apart (own := xown c) hts (xws_in c h1) (xtf c) (xtf_ok c h1) (xnm_ok c h1) (xC_K hC) (xcls_at c h1)
  rw [(xft_tag c h1 j h2).1] at hv
  obtain ⟨n1, n2⟩ := xfit_ok hv
  have hst := (u_facts hfc hkC (u_lays hts (xws_in c h1) h2) hi).1
  have hlay := hts _ (xws_in c h1 _ (u_in_lay h2))
  unfold u_lay at hlay
  have fin : ∀ H' : Heap, H'[a]? = some (cell.setSlot fd.slot v) → H'.size = H.size → (∀ q, q ≠ a → H'[q]? = H[q]?) → W p l e (xRm G M h0) s m args below meth cd H' (locs ++ [⟨a, fd.slot⟩]) (h.1 - h0.1) (h.2.1 - h0.2.1) (xMQ G below s h0 out) (F0 m (pc + 3) ls r) := by
    intro H' g1 g2 g3
    rw [hsl] at g1 ⊢
    have K := kk p e s m args below meth cd H' (locs ++ [⟨a, G.2.1 c j⟩]) ls h0 C0
    rw [xpf_eq j v e1] at K
    exact K (xZ_put Z hb0 rfl g2 g3 ⟨h1, _, g1, q2, q3, t_set q4 hap h2 v⟩) hL
  by_cases hf2 : (xfd c j).2.2.2 = true
  · rw [if_pos hf2] at hlay
    simp only [xwr, hf2, Bool.not_true, Bool.false_or, Bool.and_eq_true, decide_eq_true_eq] at hw
    have hcf : m.cls = cf := by
      obtain ⟨_, _, c', _, _, _, -, -, hf', -, -, -, hown2, -⟩ := Cond.laysFinal_spec hlay
      have e1 : c' = cf := by have := hi.symm.trans hf'; simp at this; exact this.1.symm
      rw [hw.2] at hown2
      rw [← e1]; exact Option.some.inj (hown.symm.trans hown2)
    have h6 := u_fits hfc hkC hkind (Or.inr hlay) hi (xtf_ok c h1 j h2) n1 n2
    exact W.putFinK hexec hb hown hlink (hsame _ hi) hst hcf (hnm.trans hw.1) (by rw [q2]; exact h6) q1 q3 (by rw [hsl]; exact k2_hasslot (q4 j h2)) rfl rfl hd fin
  · rw [if_neg hf2] at hlay
    have h6 := u_store hfc hkC hkind hlay hi (xtf_ok c h1 j h2) n1 n2
    exact W.putK hexec hb (f := fd) ⟨hown, hlink, ⟨_, _, _, hsame _ hi⟩, hst⟩ (by rw [q2]; exact h6) q1 q3 (by rw [hsl]; exact k2_hasslot (q4 j h2)) rfl rfl hd fin
theorem xs_ald {t : Nat} {i : Instr} {q} (hx : xat1 t pc L st h = some q) (ht : t < 4)
    (hdn : ∀ {p e R s m args below meth c H locs cells slots Q} {ls : Array Slot} {a : Nat} {cell : Cell} {j : Int32} {v : Value} {r : List Value}, p.tables.exec = Jvm.exec → c.code = xcode M → H[a]? = some cell → s.isArrayOf cell (xty t) → cell.vm ≠ .unknown → ¬ (j < 0 ∨ cell.slots.size ≤ j.toNatClampNeg) → cell.slots[j.toNatClampNeg]? = some v → W p l e R s m args below meth c H locs cells slots Q (F0 m (pc + 1) ls (v :: r)) → W p l e R s m args below meth c H locs cells slots Q (F0 m pc ls (.int j :: .ref a :: r)))
    (k : xP G X l M q.1 q.2.1 q.2.2.1 q.2.2.2 out) : xP G X l M pc L st h out := by
  obtain ⟨j, a, r, rfl, ho, hin, rfl⟩ := xat1_in hx
  intro p e s m args below meth c H locs ls h0 C Z hL
  have K := k p e s m args below meth c H locs ls h0 C Z hL
  obtain ⟨n, f, e1, e2, e3, -, e5, e6⟩ := xRel_arr Z.2.2.2 ho ht
  rw [e2] at hin
  have hlt : j.toNatClampNeg < n := Nat.not_le.mp fun q => hin (Or.inr q)
  refine hdn C.1 C.2.1 e6 ((C.2.2.2.2.2.2.2.2.2.1.2.1 t ht).2 n f) (fun q => by cases q) (by rw [arrV_size]; exact hin) (v := xe h a j.toNatClampNeg) ?_ K
  rw [arrV_read _ _ hlt, e3]
theorem xs_ast {t : Nat} {v : Value} {q} (hx : xst1 G.2.2.2.1 t pc v L st h = some q) (ht : t < 4)
    (hdn : ∀ {p e R s m args below meth c H locs cells slots Q} {ls : Array Slot} {a : Nat} {cell : Cell} {j : Int32} {r : List Value}, p.tables.exec = Jvm.exec → c.code = xcode M → H[a]? = some cell → s.isArrayOf cell (xty t) → cell.vm ≠ .unknown → ¬ (j < 0 ∨ cell.slots.size ≤ j.toNatClampNeg) → (∀ H' : Heap, H'[a]? = some (cell.setSlot j.toNatClampNeg v) → H'.size = H.size → (∀ q, q ≠ a → H'[q]? = H[q]?) → W p l e R s m args below meth c H' (locs ++ [⟨a, j.toNatClampNeg⟩]) cells slots Q (F0 m (pc + 1) ls r)) → W p l e R s m args below meth c H locs cells slots Q (F0 m pc ls (v :: .int j :: .ref a :: r)))
    (k : xP G X l M q.1 q.2.1 q.2.2.1 q.2.2.2 out) : xP G X l M pc L (v :: st) h out := by
  obtain ⟨j, a, r, rfl, ho, hin, hb0, rfl⟩ := xst1_in hx
  intro p e s m args below meth c H locs ls h0 C Z hL
  obtain ⟨n, f, e1, e2, e3, -, e5, e6⟩ := xRel_arr Z.2.2.2 ho ht
  rw [e2] at hin
  refine hdn C.1 C.2.1 e6 ((C.2.2.2.2.2.2.2.2.2.1.2.1 t ht).2 n f) (fun q => by cases q) (by rw [arrV_size]; exact hin) (fun H' g1 g2 g3 => ?_)
  have K := k p e s m args below meth c H' (locs ++ [⟨a, j.toNatClampNeg⟩]) ls h0 C
  simp only at K
  rw [xpe_eq _ v e1] at K
  exact K (xZ_put Z hb0 rfl g2 g3 (Or.inl ⟨ht, e5, by rw [g1, arrV_store]⟩)) hL
theorem xs_aast {y : Nat} {q} (hd : decode (xcode M) pc = .ok (.aastore, 1)) (hy : xok h (.ref y) = true) (hx : xst1 G.2.2.2.1 2 pc (.ref y) L st h = some q) (k : xP G X l M q.1 q.2.1 q.2.2.1 q.2.2.2 out) : xP G X l M pc L (.ref y :: st) h out := by
  obtain ⟨j, a, r, rfl, ho, hin, hb0, rfl⟩ := xst1_in hx
  intro p e s m args below meth c H locs ls h0 C Z hL
  obtain ⟨n, f, e1, e2, e3, -, e5, e6⟩ := xRel_arr Z.2.2.2 ho (by omega)
  rw [e2] at hin
  have hC := C.2.2.2.2.2.2.2.2.2.1
  obtain ⟨fy, ey⟩ : ∃ q : Nat × (Nat → Value), h.2.2 y = some (.inl q) := by
    simp only [xok] at hy
    split at hy
    · rename_i q hq; exact ⟨q, hq⟩
    · cases hy
  obtain ⟨y1, cy, y2, y3, y4, -⟩ := Z.2.2.2.2.2.2 y _ ey
  obtain ⟨kA, comp, r1, r2, r3, -⟩ := hC.2.2.1
  obtain ⟨c0, t0, f1, f2, f3⟩ := Cond.castable_spec (va_Nw.use (A := args) rfl (hC.2.2.2.2.2.2.1 fy.1 y1))
  cases r3.symm.trans f2
  obtain ⟨-, hfc, kC, hkC, hkind⟩ := hC.1 fy.1 y1
  cases hfc.symm.trans f1
  obtain ⟨kE, hkE, -⟩ := Vm.findClass_spec r3
  refine W.aast C.1 C.2.1 (cell := arrV (G.2.2.1 2) n f) (cv := cy) e6 (fun _ h => by cases h) (fun h => by cases h) r1 r2 rfl hkE ⟨fun q => hin (Or.inl q), by rw [arrV_size]; exact Nat.not_le.mp fun q => hin (Or.inr q)⟩ y2 (fun q hq => by rw [y4] at hq; cases hq) (by rw [y3]; exact hkC) (by rw [y3]; exact f3) rfl rfl hd (fun H' g1 g2 g3 => ?_)
  have K := k p e s m args below meth c H' (locs ++ [⟨a, j.toNatClampNeg⟩]) ls h0 C
  simp only at K
  rw [xpe_eq _ _ e1] at K
  exact K (xZ_put Z hb0 rfl g2 g3 (Or.inl ⟨show 2 < 4 by omega, e5, by rw [g1, arrV_store]⟩)) hL
theorem xs_alen {a t n : Nat} {f : Nat → Value} {r : List Value} (hd : decode (xcode M) pc = .ok (.arraylength, 1)) (ha : h.2.2 a = some (.inr (t, n, f))) (k : xP G X l M (pc + 1) L (.int (nI n) :: r) h out) : xP G X l M pc L (.ref a :: r) h out := by
  intro p e s m args below meth c H locs ls h0 C Z hL
  have K := k p e s m args below meth c H locs ls h0 C Z hL
  have hC := C.2.2.2.2.2.2.2.2.2.1
  have hkp := Z.2.2.2.2.2.1
  rcases Z.2.2.2.2.2.2 a _ ha with ⟨e4, e5, e6⟩ | ⟨e4, e5, e6, e7, -⟩ | ⟨e4, e5, e6, e7⟩
  · exact W.alen C.1 C.2.1 e6 ((hC.2.1 t e4).2 n f) (by rw [arrV_size]; rfl) rfl rfl hd K
  · obtain ⟨scr, f1, f2, f3, f4, -⟩ := hC.2.2.2.2.2.2.2.2.2.1
    simp only at e7
    subst e7
    rw [← e6] at f1
    exact W.alen C.1 C.2.1 (by rw [hkp a e5]; exact f1) f2 (by rw [f4]; rfl) rfl rfl hd K
  · obtain ⟨cell, f1, f2, f3⟩ := hC.2.2.2.2.2.2.2.2.2.2
    simp only at e7
    subst e7
    rw [← e6] at f1
    exact W.alen C.1 C.2.1 (by rw [hkp a e5]; exact f1) f2 (by rw [f3]; rfl) rfl rfl hd K
theorem xs_sld {q} (hd : decode (xcode M) pc = .ok (.iaload, 1)) (hx : xat1 4 pc L st h = some q) (k : xP G X l M q.1 q.2.1 q.2.2.1 q.2.2.2 out) : xP G X l M pc L st h out := by
  obtain ⟨j, a, r, rfl, ho, hin, rfl⟩ := xat1_in hx
  intro p e s m args below meth c H locs ls h0 C Z hL
  have K := k p e s m args below meth c H locs ls h0 C Z hL
  have hC := C.2.2.2.2.2.2.2.2.2.1
  obtain ⟨scr, f1, f2, f3, f4, f5⟩ := hC.2.2.2.2.2.2.2.2.2.1
  unfold xA at ho
  split at ho
  · rename_i q hq
    obtain ⟨t, n, f⟩ := q
    have e : t = 4 := by simpa using ho
    subst e
    rcases Z.2.2.2.2.2.2 a _ hq with ⟨e4, -⟩ | ⟨-, e5, e6, e7, e8⟩ | ⟨e4, -⟩
    · simp only at e4; omega
    · simp only at e7 e8
      have hl1 : xl h a = n := by simp [xl, hq]
      rw [hl1, e7] at hin
      have hlt : j.toNatClampNeg < G.2.2.2.2.2.2.1 := Nat.not_le.mp fun q => hin (Or.inr q)
      refine W.iald C.1 C.2.1 (cell := scr) (by rw [Z.2.2.2.2.2.1 a e5, e6]; exact f1) f2 f3 (by rw [f4]; exact hin) (v := xe h a j.toNatClampNeg) ?_ rfl rfl hd K
      rw [f5 _ hlt]
      simp [xe, hq, e8]
    · simp only at e4; omega
  · cases ho
theorem xle_of {n : Int32} (h : 0 ≤ n) : ¬ n < 0 := Int32.not_lt.mpr h
theorem xs_newa {at0 : ArrayType} {t : Nat} {q} (hd : decode (xcode M) pc = .ok (.newarray at0, 2)) (ht : t < 4) (hty : newarray.typeOf at0 = xty t) (hw : Cond.arrayClass (xty t) ∈ xT) (hb4 : componentBytes (xty t) ≤ 8) (hdf : defaultValue (xty t) = xdf t) (hx : xnwa G.2.2.2.1 t pc 2 L st h = some q) (k : xP G X l M q.1 q.2.1 q.2.2.1 q.2.2.2 out) : xP G X l M pc L st h out := by
  obtain ⟨n, r, rfl, hn, hr, rfl⟩ := xnwa_in hx
  intro p e s m args below meth c H locs ls h0 C Z hL
  have hC := C.2.2.2.2.2.2.2.2.2.1
  have hroom := xroom_new (M := M) Z hr
  have hr2 := hr
  simp only [xrm, decide_eq_true_eq] at hr2
  have hz := Z.1
  refine va_newaK C.1 C.2.1 (N := n.toNatClampNeg) (by rw [hty]; exact C.2.2.2.2.2.1 _ hw) rfl hd rfl (xle_of hn) rfl (by rw [hty]; exact Nat.le_trans (Nat.mul_le_mul (show n.toNatClampNeg ≤ 7293034 by omega) hb4) (by decide)) hroom.1 hroom.2 Z.2.2.2.1 (fun H' cA g1 g2 g3 g4 g5 => ?_)
  rw [hty] at g5 g1
  have e1 := (hC.2.1 t ht).1
  cases e1.symm.trans g5
  have Z2 : xZ G s h0 (xnw h n.toNatClampNeg (.inr (t, n.toNatClampNeg, fun _ => xdf t))) H' locs := xZ_new Z hr g2 g3 (Or.inl ⟨ht, show n.toNatClampNeg < 2 ^ 31 by omega, by rw [g1, hdf]⟩)
  have K := k p e s m args below meth c H' locs ls h0 C Z2 hL
  simp only [xnw] at K
  rw [show h.1 + 1 - h0.1 = h.1 - h0.1 + 1 by omega, show h.2.1 + n.toNatClampNeg - h0.2.1 = h.2.1 - h0.2.1 + n.toNatClampNeg by omega] at K
  exact K
theorem xs_anew {i : Nat} {q} (hd : decode (xcode M) pc = .ok (.anewarray i, 3)) (hw : Cond.classLink (xown (xoc M)) i "java/lang/Object" ∈ xT) (hx : xnwa G.2.2.2.1 2 pc 3 L st h = some q) (k : xP G X l M q.1 q.2.1 q.2.2.1 q.2.2.2 out) : xP G X l M pc L st h out := by
  obtain ⟨n, r, rfl, hn, hr, rfl⟩ := xnwa_in hx
  intro p e s m args below meth c H locs ls h0 C Z hL
  have hC := C.2.2.2.2.2.2.2.2.2.1
  have hroom := xroom_new (M := M) Z hr
  have hr2 := hr
  simp only [xrm, decide_eq_true_eq] at hr2
  have hz := Z.1
  refine W.anew C.1 C.2.1 C.2.2.2.2.1 (C.2.2.2.2.2.1 _ hw) (va_AO.use hC.2.2.2.2.1) rfl hd rfl (xle_of hn) (by omega) hroom.1 hroom.2 fun cA kA comp f1 f2 f3 f4 => ?_
  have e1 := (hC.2.1 2 (by decide)).1
  cases e1.symm.trans f1
  generalize hH1 : H.push ({ cls := G.2.2.1 2, slots := Array.replicate n.toNatClampNeg .null, vm := .none } : Cell) = H1
  have hsz : H.size = h.1 := Z.2.2.2.1
  have z1 : H1.size = h.1 + 1 := by rw [← hH1, Array.size_push, hsz]
  have e1 : H1[h.1]? = some (arrV (G.2.2.1 2) n.toNatClampNeg (fun _ => .null)) := by rw [← hH1, ← hsz, Array.getElem?_push_size, ← arrV_new]
  have o1 : ∀ q : Nat, q < h.1 → H1[q]? = H[q]? := fun q hq => by rw [← hH1, Array.getElem?_push, if_neg (by rw [hsz]; exact Nat.ne_of_lt hq)]
  have Z2 : xZ G s h0 (xnw h n.toNatClampNeg (.inr (2, n.toNatClampNeg, fun _ => xdf 2))) H1 locs := xZ_new Z hr z1 o1 (Or.inl ⟨show 2 < 4 by omega, show n.toNatClampNeg < 2 ^ 31 by omega, e1⟩)
  have K := k p e s m args below meth c H1 locs ls h0 C Z2 hL
  simp only [xnw] at K
  rw [show h.1 + 1 - h0.1 = h.1 - h0.1 + 1 by omega, show h.2.1 + n.toNatClampNeg - h0.2.1 = h.2.1 - h0.2.1 + n.toNatClampNeg by omega] at K
  rw [hsz]
  exact K
theorem xs_new {i cn : Nat} (hd : decode (xcode M) pc = .ok (.new i, 3)) (hc : xcl (xoc M) i = some cn) (hr : xrm G.2.2.2.1 h (xNf cn) = true) (k : xP G X l M (pc + 3) L (.ref h.1 :: st) (xnw h (xNf cn) (.inl (cn, fun j => xdf (xft cn j)))) out) : xP G X l M pc L st h out := by
  intro p e s m args below meth c H locs ls h0 C Z hL
  have hC := C.2.2.2.2.2.2.2.2.2.1
  have hts := C.2.2.2.2.2.1
  have hroom := xroom_new (M := M) Z hr
  obtain ⟨c1, c2, c3, c4⟩ := xcl_ok hc
  have hKn := hC.1 cn c1
  have hz := Z.1
  refine W.newcK C.1 C.2.1 C.2.2.2.2.1 (hts _ c2) (hts _ c3) (hts _ c4) rfl hd hroom.1 hroom.2 hKn.2.1 Z.2.2.2.1 fun H1 kC hkC e1 z1 o1 => ?_
  have hob := (u_born (xtf cn) hts (xws_in cn c1) hKn hkC e1 (xtf_ok cn c1)).to (V' := fun j => xdf (xft cn j)) (fun j hj => by rw [(xft_tag cn c1 j hj).1]; exact xdf_ok (xft_tag cn c1 j hj).2)
  have Z2 : xZ G s h0 (xnw h (xNf cn) (.inl (cn, fun j => xdf (xft cn j)))) H1 locs := xZ_new Z hr z1 o1 ⟨c1, hob⟩
  have K := k p e s m args below meth c H1 locs ls h0 C Z2 hL
  simp only [xnw] at K
  rw [show h.1 + 1 - h0.1 = h.1 - h0.1 + 1 by omega, show h.2.1 + xNf cn - h0.2.1 = h.2.1 - h0.2.1 + xNf cn by omega] at K
  exact K
theorem xs_cast {i cn a : Nat} {r : List Value} (hd : decode (xcode M) pc = .ok (.checkcast i, 3)) (hc : xcl (xoc M) i = some cn) (ho : xO h a cn = true) (k : xP G X l M (pc + 3) L (.ref a :: r) h out) : xP G X l M pc L (.ref a :: r) h out := by
  intro p e s m args below meth c H locs ls h0 C Z hL
  have K := k p e s m args below meth c H locs ls h0 C Z hL
  have hC := C.2.2.2.2.2.2.2.2.2.1
  obtain ⟨c1, c2, c3, c4⟩ := xcl_ok hc
  obtain ⟨f, e1, e2, -, cell, q1, q2, q3, q4⟩ := xRel_obj Z.2.2.2 ho
  exact va_castS C.1 C.2.1 C.2.2.2.2.1 (C.2.2.2.2.2.1 _ c2) (hC.1 cn c1).2 ⟨cell, q1, by rw [q3]; rfl, by rw [q2]; exact (hC.1 cn c1).2.1⟩ hd K
theorem xs_oi {i a : Nat} {r : List Value} (hd : decode (xcode M) pc = .ok (.invokespecial i, 3)) (hn : xnt (xoc M) i 0 = 1) (hfr : 1 ≤ xfr M) (hlo : 20 ≤ xlo M) (hr : (r.map fun v => v.category).sum ≤ 8) (k : xP G X l M (pc + 3) L r h out) : xP G X l M pc L (.ref a :: r) h out := by
  intro p e s m args below meth c H locs ls h0 C Z hL
  have K := k p e s m args below meth c H locs ls h0 C Z hL
  refine W.objInit C.1 C.2.1 C.2.2.2.2.1 (C.2.2.2.2.2.1 _ (xw_oi _ _ hn)) (C.2.2.2.2.2.1 _ xw_oii) (C.2.2.2.2.2.1 _ xw_oic) rfl (by rw [C.2.2.2.1]; exact hL.1) rfl hd hfr ?_ K
  show 2 * 0 + _ + 12 ≤ xlo M
  omega
theorem xs_gets (hd : decode (xcode M) pc = .ok (.getstatic 39, 3)) (hM : xoc M = 0) (k : xP G X l M (pc + 3) L (.ref G.2.2.2.1.2.1 :: st) h out) : xP G X l M pc L st h out := by
  intro p e s m args below meth c H locs ls h0 C Z hL
  have K := k p e s m args below meth c H locs ls h0 C Z hL
  have hC := C.2.2.2.2.2.2.2.2.2.1
  have hw := C.2.2.2.2.2.1 _ xw_ed
  rw [← hM] at hw
  have hbs := hC.2.2.2.2.2.2.2.2.1
  refine va_gets (A := fun q => G.2.2.2.1.1 ≤ q) C.1 C.2.1 (hC.2.2.2.2.2.2.2.1.kept (fun q hq hn => Z.2.1 q (by omega))) ?_ C.2.2.2.2.1 hw (fun x hx => hx) hd K
  refine ⟨by rw [Z.1.2.2.2, Z.2.2.2.1]; exact Z.1.1, fun q hq hn => ?_, Z.2.2.1⟩
  rw [Z.2.2.2.2.2.1 q (Nat.not_le.mp hn), Z.2.1 q (Nat.not_le.mp hn)]
theorem xs_gc {a : Nat} {r : List Value} (hd : decode (xcode M) pc = .ok (.invokevirtual 86, 3)) (hM : xoc M = 15) (ho : xA h a 2 = true) (hfr : 1 ≤ xfr M) (hlo : 30 ≤ xlo M) (hr : (r.map fun v => v.category).sum ≤ 8) (k : xP G X l M (pc + 3) L (.ref G.2.2.2.1.2.2 :: r) h out) : xP G X l M pc L (.ref a :: r) h out := by
  intro p e s m args below meth c H locs ls h0 C Z hL
  have K := k p e s m args below meth c H locs ls h0 C Z hL
  have hC := C.2.2.2.2.2.2.2.2.2.1
  have hts := C.2.2.2.2.2.1
  obtain ⟨n, f, e1, e2, e3, -, e5, e6⟩ := xRel_arr Z.2.2.2 ho (by omega)
  have hw := hts _ xw_gcl
  rw [← hM] at hw
  refine va_getC C.1 C.2.1 (by rw [C.2.2.2.1]; exact hL.1.symm) C.2.2.2.2.1 hw (va_Dc.use hC.2.2.2.2.2.1) (hts _ xw_gcs) (hts _ xw_gci) (hts _ xw_gcn) hC.2.2.2.1 ⟨_, e6, rfl, ?_⟩ hfr ?_ hd K
  · exact (hC.2.1 2 (by decide)).1
  · show _ + 14 ≤ xlo M
    omega
theorem xs_ldcm (hd : decode (xcode M) pc = .ok (.ldc 110, 2)) (hM : xoc M = 15) (k : xP G X l M (pc + 2) L (.ref G.2.2.2.1.2.2 :: st) h out) : xP G X l M pc L st h out := by
  intro p e s m args below meth c H locs ls h0 C Z hL
  have K := k p e s m args below meth c H locs ls h0 C Z hL
  have hC := C.2.2.2.2.2.2.2.2.2.1
  have hw := C.2.2.2.2.2.1 _ xw_mir
  rw [← hM] at hw
  exact va_ldcM C.1 C.2.1 C.2.2.2.2.1 hw hC.2.2.2.1 hd K
theorem xs_ac {i a0 a1 : Nat} {sp dp n : Int32} {r : List Value} (hd : decode (xcode M) pc = .ok (.invokestatic i, 3)) (hn : xnt (xoc M) i 1 = 2) (hfr : 1 ≤ xfr M) (hlo : 100 ≤ xlo M) (ho0 : xA h a0 2 = true) (ho1 : xA h a1 2 = true) (hb0 : G.2.2.2.1.1 ≤ a1) (h1 : 0 ≤ sp) (h2 : 0 ≤ dp) (h3 : 0 ≤ n) (h4 : sp.toNatClampNeg + n.toNatClampNeg ≤ xl h a0) (h5 : dp.toNatClampNeg + n.toNatClampNeg ≤ xl h a1) (hel : ∀ j, j < n.toNatClampNeg → xok h (xe h a0 (sp.toNatClampNeg + j)) = true) (hr : (r.map fun v => v.category).sum ≤ 8)
    (k : xP G X l M (pc + 3) L r (xcp h a0 a1 sp.toNatClampNeg dp.toNatClampNeg n.toNatClampNeg) out) : xP G X l M pc L (.int n :: .int dp :: .ref a1 :: .int sp :: .ref a0 :: r) h out := by
  intro p e s m args below meth c H locs ls h0 C Z hL
  have hC := C.2.2.2.2.2.2.2.2.2.1
  have hts := C.2.2.2.2.2.1
  obtain ⟨n0, f, e1, e2, e3, -, e5, e6⟩ := xRel_arr Z.2.2.2 ho0 (by omega)
  obtain ⟨n1, f1, d1, d2, d3, -, d5, d6⟩ := xRel_arr Z.2.2.2 ho1 (by omega)
  rw [e2] at h4
  rw [d2] at h5
  obtain ⟨kA, comp, r1, r2, r3, -⟩ := hC.2.2.1
  have nn : ∀ z : Int32, ¬ z < 0 → z.toInt = (z.toNatClampNeg : Int) := by
    intro z hz
    have hz0 : (0 : Int) ≤ z.toInt := by
      have := Int32.not_lt.mp hz
      simpa using Int32.le_iff_toInt_le.mp this
    show z.toInt = ((z.toInt.toNat : Nat) : Int)
    omega
  have g1 := xle_of h1
  have g2 := xle_of h2
  have g3 := xle_of h3
  intro T hT X'
  obtain ⟨vm', X2, step⟩ := X'.arraycopy C.1 C.2.2.2.2.1 (hts _ (xw_ac _ _ hn)) (hts _ xw_acn) (hts _ xw_acs) (hts _ xw_sys) (src := a0) (dst := a1) (cs := arrV (G.2.2.1 2) n0 f) (cd := arrV (G.2.2.1 2) n1 f1) (srcPos := sp) (destPos := dp) (n := n) (by rw [hT]; exact e6) (by rw [hT]; exact d6)
    (fun _ h => by cases h) (fun _ h => by cases h) (fun h => by cases h) (fun h => by cases h) r1 r1 r2 r2 rfl g1 g2 g3
    (by rw [nn sp g1, nn n g3, arrV_size]; omega)
    (by rw [nn dp g2, nn n g3, arrV_size]; omega)
    (fun vm₁ hal j hj => by
      have e : (arrV (G.2.2.1 2) n0 f).slots.getD (sp.toNatClampNeg + j) .null = f (sp.toNatClampNeg + j) := by
        rw [Array.getD_eq_getD_getElem?, arrV_read _ _ (by omega)]
        rfl
      rw [e]
      have hk := hel j hj
      rw [e3] at hk
      cases hv : f (sp.toNatClampNeg + j) with
      | null => exact ⟨rfl, trivial⟩
      | ref y =>
        rw [hv] at hk
        obtain ⟨fy, ey⟩ : ∃ q : Nat × (Nat → Value), h.2.2 y = some (.inl q) := by
          simp only [xok] at hk
          split at hk
          · rename_i q hq; exact ⟨q, hq⟩
          · cases hk
        obtain ⟨y1, cy, y2, y3, y4, -⟩ := Z.2.2.2.2.2.2 y _ ey
        obtain ⟨c0, t0, q1, q2, q3⟩ := Cond.castable_spec (va_Nw.use (A := args) rfl (hC.2.2.2.2.2.2.1 fy.1 y1))
        cases r3.symm.trans q2
        obtain ⟨-, hfc, kC, hkC, hkind⟩ := hC.1 fy.1 y1
        cases hfc.symm.trans q1
        obtain ⟨kE, hkE, -⟩ := Vm.findClass_spec r3
        obtain ⟨kC', hkC', -⟩ := hal.2.2 _ _ hkC
        obtain ⟨kE', hkE', -⟩ := hal.2.2 _ _ hkE
        refine ⟨rfl, cy, (show T.heap[y]? = some cy by rw [hT]; exact y2), (fun q h => by rw [y4] at h; cases h), ⟨kC', by rw [y3]; exact hkC'⟩, ?_, ?_⟩
        · exact ⟨kE', hkE'⟩
        · show vm₁.assignable _ _ = true
          rw [hal.assignable, y3]
          exact q3
      | _ => rw [hv] at hk; cases hk)
    (g := F0 m pc ls (.int n :: .int dp :: .ref a1 :: .int sp :: .ref a0 :: r)) rfl (by rw [C.2.2.2.1]; exact hL.1) (rest := r) rfl (by rw [C.2.1]; exact hd) hfr (by show 2 * 0 + _ + _ ≤ xlo M; have hw : nativeFrameWords "java/lang/System" "arraycopy" 5 ≤ 60 := (by decide); omega)
  have ec : copied (arrV (G.2.2.1 2) n0 f) (arrV (G.2.2.1 2) n1 f1) sp dp n = arrV (G.2.2.1 2) n1 (va_cpy f f1 sp.toNatClampNeg dp.toNatClampNeg n.toNatClampNeg) := va_copied (fun z => z) (G.2.2.1 2) (G.2.2.1 2) f f1 h4
  rw [ec] at X2 step
  have hl : a1 < H.size := (Array.getElem?_eq_some_iff.mp d6).1
  have hheap : ((T.setVm vm').setCell a1 (arrV (G.2.2.1 2) n1 (va_cpy f f1 sp.toNatClampNeg dp.toNatClampNeg n.toNatClampNeg))).heap = H.setIfInBounds a1 (arrV (G.2.2.1 2) n1 (va_cpy f f1 sp.toNatClampNeg dp.toNatClampNeg n.toNatClampNeg)) := by rw [← hT]; rfl
  have oq : ∀ q : Nat, q ≠ a1 → (H.setIfInBounds a1 (arrV (G.2.2.1 2) n1 (va_cpy f f1 sp.toNatClampNeg dp.toNatClampNeg n.toNatClampNeg)))[q]? = H[q]? := fun q hq => by simp [Array.getElem?_setIfInBounds, Ne.symm hq]
  have ex : xcp h a0 a1 sp.toNatClampNeg dp.toNatClampNeg n.toNatClampNeg = xpc h a1 (.inr (2, n1, va_cpy f f1 sp.toNatClampNeg dp.toNatClampNeg n.toNatClampNeg)) := by
    have : xe h a0 = f := funext e3
    simp [xcp, d1, this]
  have Z2 : xZ G s h0 (xpc h a1 (.inr (2, n1, va_cpy f f1 sp.toNatClampNeg dp.toNatClampNeg n.toNatClampNeg))) (H.setIfInBounds a1 (arrV (G.2.2.1 2) n1 (va_cpy f f1 sp.toNatClampNeg dp.toNatClampNeg n.toNatClampNeg))) (locs ++ ((arrV (G.2.2.1 2) n0 f).stretch sp.toNatClampNeg n.toNatClampNeg).zipIdx.map fun q => ⟨a1, dp.toNatClampNeg + q.2⟩) := by
    refine ⟨Z.1, Z.2.1, fun z hz => ?_, xRel_put Z.2.2.2 hb0 (by simp) oq (Or.inl ⟨show 2 < 4 by omega, d5, by simp [Array.getElem?_setIfInBounds, hl]⟩)⟩
    rcases List.mem_append.mp hz with h | h
    · exact Z.2.2.1 z h
    · obtain ⟨w, -, hw⟩ := List.mem_map.mp h
      rw [← hw]
      exact hb0
  have K := k p e s m args below meth c _ _ ls h0 C (ex ▸ Z2) hL
  obtain ⟨t, b1, b2⟩ := K _ hheap (ex ▸ X2)
  exact ⟨t, step t b1, b2⟩
end XH
