/-! ===== rules of the small machine, one a kind of instruction ===== -/
section XV
variable {g : Nat × Nat × Nat} {M pc : Nat} {L : List (Option Value)} {st : List Value} {h : xH} {out : xR}
theorem ev_nx {i : Instr} {len : Nat} {q} (hd : decode (xcode M) pc = .ok (i, len)) (hl : xlen i len = true) (ht : xth M pc = none) (hr : xrt M i st = none) (hc : xcall M i st h = none) (hx : xnx g M pc i L st h = some q) : Ev g M pc L st h out = Ev g M q.1 q.2.1 q.2.2.1 q.2.2.2 out := by
  rw [Ev_eq hd hl]
  unfold xStI
  rw [ht]
  simp only
  rw [hr]
  simp only
  rw [hc]
  simp only
  rw [hx]
theorem ev_br {i : Instr} {len : Nat} {b : Bool} {c : Prop} [Decidable c] {t n : Nat} {r : List Value} (hd : decode (xcode M) pc = .ok (i, len)) (hl : xlen i len = true) (ht : xth M pc = none) (hr : xrt M i st = none) (hc : xcall M i st h = none) (hx : xnx g M pc i L st h = some (if b then t else n, L, r, h)) (hb : b = true ↔ c) : Ev g M pc L st h out = if c then Ev g M t L r h out else Ev g M n L r h out := by
  rw [ev_nx hd hl ht hr hc hx]
  by_cases h1 : c
  · rw [if_pos h1]
    simp only [hb.mpr h1, if_true]
  · rw [if_neg h1]
    have : b = false := by cases b; rfl; exact absurd (hb.mp rfl) h1
    simp only [this, Bool.false_eq_true, if_false]
theorem ev_rt {i : Instr} {len : Nat} {v : Option Value} (hd : decode (xcode M) pc = .ok (i, len)) (hl : xlen i len = true) (ht : xth M pc = none) (hr : xrt M i st = some v) : Ev g M pc L st h out = (out = (.inl v, h)) := by
  rw [Ev_eq hd hl]
  unfold xStI
  rw [ht]
  simp only
  rw [hr]
theorem ev_th {i : Instr} {len E : Nat} (hd : decode (xcode M) pc = .ok (i, len)) (hl : xlen i len = true) (ht : xth M pc = some E) : Ev g M pc L [] h out = (xrm g h 6 = true ∧ out = (.inr E, (h.1 + 1, h.2.1 + 6, h.2.2))) := by
  rw [Ev_eq hd hl]
  unfold xStI
  rw [ht]
  simp
/-- the machine has one answer -/
theorem xStI_det {i : Instr} {out2 : xR} (hx : xStI (fun M pc L st h out => ∀ out2, Ev g M pc L st h out2 → out = out2) g M pc i L st h out) (k : xStI (Ev g) g M pc i L st h out2) : out = out2 := by
  unfold xStI at hx k
  cases h1 : xth M pc with
  | some E => simp only [h1] at hx k; exact hx.2.2.trans k.2.2.symm
  | none =>
    simp only [h1] at hx k
    cases h2 : xrt M i st with
    | some v => simp only [h2] at hx k; exact hx.trans k.symm
    | none =>
      simp only [h2] at hx k
      cases h3 : xcall M i st h with
      | some q =>
        simp only [h3] at hx k
        obtain ⟨o, k1, k2⟩ := hx
        obtain ⟨o2, j1, j2⟩ := k
        have := k1 _ j1
        subst this
        obtain ⟨v | E, h1⟩ := o
        · exact k2 _ j2
        · simp only [xaft] at k2 j2
          cases hh : xhh M with
          | nil => simp only [hh] at k2 j2; exact k2.trans j2.symm
          | cons a b =>
            simp only [hh] at k2 j2
            cases hd : xhd M pc E with
            | none => simp [hd] at k2
            | some t => simp only [hd] at k2 j2; exact k2 0 _ (j2 0)
      | none =>
        simp only [h3] at hx k
        cases h4 : xnx g M pc i L st h with
        | some q => simp only [h4] at hx k; exact hx _ k
        | none => simp [h4] at hx
theorem Ev_det {out2 : xR} (h1 : Ev g M pc L st h out) (h2 : Ev g M pc L st h out2) : out = out2 := by
  refine h1 (fun M pc L st h out => ∀ out2, Ev g M pc L st h out2 → out = out2) ?_ out2 h2
  intro M pc L st h out hx out2 k
  have k := Ev_out k
  unfold xSt at hx k
  cases hd : decode (xcode M) pc with
  | error e => simp [hd] at hx
  | ok q => simp only [hd] at hx k; exact xStI_det hx.2 k.2
theorem ev_ca {i : Instr} {len : Nat} {q} {o : xR} (hd : decode (xcode M) pc = .ok (i, len)) (hl : xlen i len = true) (ht : xth M pc = none) (hr : xrt M i st = none) (hc : xcall M i st h = some q) (k1 : Ev g q.1 0 (xpad q.1 q.2.1) [] h o) : Ev g M pc L st h out = xaft (Ev g) M pc L q.2.2 o out := by
  rw [Ev_eq hd hl]
  unfold xStI
  rw [ht]
  simp only
  rw [hr]
  simp only
  rw [hc]
  apply propext
  constructor
  · intro k
    obtain ⟨o2, j1, j2⟩ := k
    rw [Ev_det k1 j1]
    exact j2
  · intro k
    exact ⟨_, k1, k⟩
/-- a call whose callee answers -/
theorem ev_cl {i : Instr} {len : Nat} {q} {v : Option Value} {h1 : xH} (hd : decode (xcode M) pc = .ok (i, len)) (hl : xlen i len = true) (ht : xth M pc = none) (hr : xrt M i st = none) (hc : xcall M i st h = some q) (k1 : Ev g q.1 0 (xpad q.1 q.2.1) [] h (.inl v, h1)) : Ev g M pc L st h out = Ev g M (pc + 3) L (v.toList ++ q.2.2) h1 out :=
  ev_ca hd hl ht hr hc k1
/-- a call whose callee throws, in a method without handlers -/
theorem ev_ct {i : Instr} {len : Nat} {q} {E : Nat} {h1 : xH} (hd : decode (xcode M) pc = .ok (i, len)) (hl : xlen i len = true) (ht : xth M pc = none) (hr : xrt M i st = none) (hc : xcall M i st h = some q) (hh : xhh M = []) (k1 : Ev g q.1 0 (xpad q.1 q.2.1) [] h (.inr E, h1)) : Ev g M pc L st h out = (out = (.inr E, h1)) := by
  rw [ev_ca hd hl ht hr hc k1]
  simp only [xaft, hh]
/-- .. in a method that catches it -/
theorem ev_cc {i : Instr} {len : Nat} {q} {E t : Nat} {h1 : xH} (hd : decode (xcode M) pc = .ok (i, len)) (hl : xlen i len = true) (ht : xth M pc = none) (hr : xrt M i st = none) (hc : xcall M i st h = some q) (hh : xhh M ≠ []) (hhd : xhd M pc E = some t) (k1 : Ev g q.1 0 (xpad q.1 q.2.1) [] h (.inr E, h1)) : Ev g M pc L st h out = ∀ z : Nat, Ev g M t L [.ref z] h1 out := by
  rw [ev_ca hd hl ht hr hc k1]
  simp only [xaft]
  cases hx : xhh M with
  | nil => exact absurd hx hh
  | cons a b => simp only [hhd]
end XV
theorem xrd_ref (a : Nat) : xrd (.ref a) = true := id rfl
theorem xrd_null : xrd .null = true := id rfl
theorem xrd_rf (r : Option Nat) : xrd (va_rf r) = true := by cases r <;> rfl
theorem xid_int (x : Int32) : xid (.int x) = true := id rfl
theorem xfit_int (x : Int32) : xfit 0 (.int x) = true := id rfl
theorem xfit_ref (a : Nat) : xfit 2 (.ref a) = true := id rfl
theorem xfit_null : xfit 2 .null = true := id rfl
theorem xfit_rf (r : Option Nat) : xfit 2 (va_rf r) = true := by cases r <;> rfl
theorem xfit_0 : xfit 1 (.int 0) = true := id rfl
theorem xfit_1 : xfit 1 (.int 1) = true := id rfl
theorem xcat_rf (r : Option Nat) : (va_rf r).category = 1 := by cases r <;> rfl
theorem xroom_mk {M M' : Nat} {As r : List Value} (h1 : xfr M' + 1 ≤ xfr M ∧ 8 + (xmaxL M' + 11) + xlo M' ≤ xlo M) (h2 : (r.map fun v => v.category).sum ≤ 8) (h3 : As.length ≤ xmaxL M') (h4 : ∀ v ∈ As, v.category = 1) : xroom M M' As r = true := by
  simp only [xroom, decide_eq_true_eq]
  exact ⟨h1.1, h1.2, h2, h3, h4⟩
theorem xcat_rd {v : Value} (h : xrd v = true) : v.category = 1 := by
  obtain ⟨r, rfl⟩ := xrd_in h
  exact xcat_rf r
section XV2
variable {g : Nat × Nat × Nat} {M pc : Nat} {L : List (Option Value)} {st : List Value} {h : xH} {out : xR}
theorem xc_V {k M' n c a : Nat} {As r : List Value} (hm : xml (xoc M) k = some (0, M', n, c)) (hp : xpop n [] st = some (As, .ref a :: r)) (ho : xO h a c = true) (hroom : xroom M M' (.ref a :: As) r = true) : xcall M (.invokevirtual k) st h = some (M', .ref a :: As, r) := by
  simp only [xcall, hm, xcallV, hp, ho, hroom, and_self, if_true]
theorem xc_S {k M' n c : Nat} {As r : List Value} (hm : xml (xoc M) k = some (1, M', n, c)) (hp : xpop n [] st = some (As, r)) (hroom : xroom M M' As r = true) : xcall M (.invokestatic k) st h = some (M', As, r) := by
  simp only [xcall, hm, xcallS, hp, hroom, if_true]
theorem xc_I {k M' n c a : Nat} {As r : List Value} (hm : xml (xoc M) k = some (2, M', n, c)) (hp : xpop n [] st = some (As, .ref a :: r)) (hroom : xroom M M' (.ref a :: As) r = true) : xcall M (.invokespecial k) st h = some (M', .ref a :: As, r) := by
  simp only [xcall, hm, xcallI, hp, hroom, if_true]
theorem xc_N {k : Nat} (hm : xml (xoc M) k = none) : xcall M (.invokevirtual k) st h = none ∧ xcall M (.invokestatic k) st h = none ∧ xcall M (.invokespecial k) st h = none := by
  simp only [xcall, hm, and_self]
theorem ev_ldv {i : Instr} {len k d : Nat} {b : Value → Bool} {v : Value} (hd : decode (xcode M) pc = .ok (i, len)) (hl : xlen i len = true) (ht : xth M pc = none) (hr : xrt M i st = none) (hc : xcall M i st h = none) (hx : xnx g M pc i L st h = xld k d b pc L st h) (hL : L[k]? = some (some v)) (hv : b v = true) : Ev g M pc L st h out = Ev g M (pc + d) L (v :: st) h out :=
  ev_nx hd hl ht hr hc (q := (pc + d, L, v :: st, h)) (by rw [hx]; simp [xld, hL, hv])
theorem ev_stv {i : Instr} {len k d : Nat} {b : Value → Bool} {v : Value} {L' : List (Option Value)} (hd : decode (xcode M) pc = .ok (i, len)) (hl : xlen i len = true) (ht : xth M pc = none) (hr : xrt M i (v :: st) = none) (hc : xcall M i (v :: st) h = none) (hx : xnx g M pc i L (v :: st) h = xso k d b pc L (v :: st) h) (hk : k < L.length) (hL : L.set k (some v) = L') (hv : b v = true) : Ev g M pc L (v :: st) h out = Ev g M (pc + d) L' st h out :=
  ev_nx hd hl ht hr hc (q := (pc + d, L', st, h)) (by rw [hx]; simp [xso, hk, hv, hL])
theorem ev_get {k c j a : Nat} (hd : decode (xcode M) pc = .ok (.getfield k, 3)) (ht : xth M pc = none) (hf : xfl (xoc M) k = some (c, j)) (ho : xO h a c = true) : Ev g M pc L (.ref a :: st) h out = Ev g M (pc + 3) L (xg h a j :: st) h out :=
  ev_nx hd rfl ht rfl rfl (q := (pc + 3, L, xg h a j :: st, h)) (by simp [xnx, hf, ho])
theorem ev_put {k c j a : Nat} {v : Value} {t : Nat} (hd : decode (xcode M) pc = .ok (.putfield k, 3)) (ht : xth M pc = none) (hf : xfl (xoc M) k = some (c, j)) (htt : xft c j = t) (hw : xwr M c j = true) (ho : xO h a c = true) (hv : xfit t v = true) (hb : g.1 ≤ a) : Ev g M pc L (v :: .ref a :: st) h out = Ev g M (pc + 3) L st (xpf h a j v) out :=
  ev_nx hd rfl ht rfl rfl (q := (pc + 3, L, st, xpf h a j v)) (by subst htt; simp [xnx, hf, ho, hv, hw, hb])
theorem ev_ald {i : Instr} {t : Nat} {j : Int32} {a : Nat} (hd : decode (xcode M) pc = .ok (i, 1)) (hl : xlen i 1 = true) (ht : xth M pc = none) (hr : xrt M i (.int j :: .ref a :: st) = none) (hc : xcall M i (.int j :: .ref a :: st) h = none) (hx : xnx g M pc i L (.int j :: .ref a :: st) h = xat1 t pc L (.int j :: .ref a :: st) h) (hA : xA h a t = true) (hin : ¬ (j < 0 ∨ xl h a ≤ j.toNatClampNeg)) : Ev g M pc L (.int j :: .ref a :: st) h out = Ev g M (pc + 1) L (xe h a j.toNatClampNeg :: st) h out :=
  ev_nx hd hl ht hr hc (q := (pc + 1, L, xe h a j.toNatClampNeg :: st, h)) (by rw [hx]; simp only [xat1]; rw [if_pos ⟨hA, hin⟩])
theorem ev_ast {i : Instr} {t : Nat} {j : Int32} {a : Nat} {v : Value} (hd : decode (xcode M) pc = .ok (i, 1)) (hl : xlen i 1 = true) (ht : xth M pc = none) (hr : xrt M i (v :: .int j :: .ref a :: st) = none) (hc : xcall M i (v :: .int j :: .ref a :: st) h = none) (hx : xnx g M pc i L (v :: .int j :: .ref a :: st) h = xst1 g t pc v L (.int j :: .ref a :: st) h) (hA : xA h a t = true) (hin : ¬ (j < 0 ∨ xl h a ≤ j.toNatClampNeg)) (hb : g.1 ≤ a) : Ev g M pc L (v :: .int j :: .ref a :: st) h out = Ev g M (pc + 1) L st (xpe h a j.toNatClampNeg v) out :=
  ev_nx hd hl ht hr hc (q := (pc + 1, L, st, xpe h a j.toNatClampNeg v)) (by rw [hx]; simp only [xst1]; rw [if_pos ⟨hA, hin, hb⟩])
theorem xiald {j : Int32} {a : Nat} (hA : xA h a 0 = true) (hin : ¬ (j < 0 ∨ xl h a ≤ j.toNatClampNeg)) : xnx g M pc .iaload L (.int j :: .ref a :: st) h = xat1 0 pc L (.int j :: .ref a :: st) h := by
  simp only [xnx, xat1]; rw [if_pos ⟨hA, hin⟩]
theorem xiald4 {j : Int32} {a : Nat} (hA : xA h a 4 = true) : xnx g M pc .iaload L (.int j :: .ref a :: st) h = xat1 4 pc L (.int j :: .ref a :: st) h := by
  have : xA h a 0 = false := by
    unfold xA at hA ⊢
    split at hA
    · rename_i q hq
      have : q.1 = 4 := by simpa using hA
      simp [this]
    · cases hA
  simp only [xnx, xat1, this]
  simp
end XV2
