/-! ===== each step of the small machine is one of the machine ===== -/
theorem xld_in {i d pc : Nat} {b : Value → Bool} {L : List (Option Value)} {st : List Value} {h : xH} {q} (hx : xld i d b pc L st h = some q) : ∃ v : Value, L[i]? = some (some v) ∧ b v = true ∧ q = (pc + d, L, v :: st, h) := by
  unfold xld at hx
  split at hx
  · rename_i v hv
    split at hx
    · rename_i hb; cases hx; exact ⟨v, hv, hb, rfl⟩
    · cases hx
  · cases hx
theorem xso_in {i d pc : Nat} {b : Value → Bool} {L : List (Option Value)} {st : List Value} {h : xH} {q} (hx : xso i d b pc L st h = some q) : ∃ (v : Value) (r : List Value), st = v :: r ∧ i < L.length ∧ b v = true ∧ q = (pc + d, L.set i (some v), r, h) := by
  unfold xso at hx
  split at hx
  · rename_i v r
    split at hx
    · rename_i hb; cases hx; exact ⟨v, r, rfl, hb.1, hb.2, rfl⟩
    · cases hx
  · cases hx
theorem xi2_in {f : Int32 → Int32 → Int32} {pc : Nat} {L : List (Option Value)} {st : List Value} {h : xH} {q} (hx : xi2 f pc L st h = some q) : ∃ (x y : Int32) (r : List Value), st = .int y :: .int x :: r ∧ q = (pc + 1, L, .int (f x y) :: r, h) := by
  unfold xi2 at hx
  split at hx
  · cases hx; exact ⟨_, _, _, rfl, rfl⟩
  · cases hx
theorem xj_in {pc t : Nat} {off : Int} (h : xj pc off = some t) : (pc : Int) + off = (t : Int) := by
  unfold xj at h
  split at h
  · rename_i n hn; cases h; exact hn
  · cases h
theorem xbr_in {pc : Nat} {off : Int} {b : Bool} {L : List (Option Value)} {r : List Value} {h : xH} {q} (hx : xbr pc off b L r h = some q) : ∃ t : Nat, (pc : Int) + off = (t : Int) ∧ q = (if b then t else pc + 3, L, r, h) := by
  unfold xbr at hx
  split at hx
  · rename_i t ht; cases hx; exact ⟨t, xj_in ht, rfl⟩
  · cases hx
theorem xat1_in {t pc : Nat} {L : List (Option Value)} {st : List Value} {h : xH} {q} (hx : xat1 t pc L st h = some q) : ∃ (j : Int32) (a : Nat) (r : List Value), st = .int j :: .ref a :: r ∧ xA h a t = true ∧ ¬ (j < 0 ∨ xl h a ≤ j.toNatClampNeg) ∧ q = (pc + 1, L, xe h a j.toNatClampNeg :: r, h) := by
  unfold xat1 at hx
  split at hx
  · split at hx
    · rename_i hb; cases hx; exact ⟨_, _, _, rfl, hb.1, hb.2, rfl⟩
    · cases hx
  · cases hx
theorem xst1_in {g : Nat × Nat × Nat} {t pc : Nat} {v : Value} {L : List (Option Value)} {st : List Value} {h : xH} {q} (hx : xst1 g t pc v L st h = some q) : ∃ (j : Int32) (a : Nat) (r : List Value), st = .int j :: .ref a :: r ∧ xA h a t = true ∧ ¬ (j < 0 ∨ xl h a ≤ j.toNatClampNeg) ∧ g.1 ≤ a ∧ q = (pc + 1, L, r, xpe h a j.toNatClampNeg v) := by
  unfold xst1 at hx
  split at hx
  · split at hx
    · rename_i hb; cases hx; exact ⟨_, _, _, rfl, hb.1, hb.2.1, hb.2.2, rfl⟩
    · cases hx
  · cases hx
theorem xnwa_in {g : Nat × Nat × Nat} {t pc d : Nat} {L : List (Option Value)} {st : List Value} {h : xH} {q} (hx : xnwa g t pc d L st h = some q) : ∃ (n : Int32) (r : List Value), st = .int n :: r ∧ 0 ≤ n ∧ xrm g h n.toNatClampNeg = true ∧ q = (pc + d, L, .ref h.1 :: r, xnw h n.toNatClampNeg (.inr (t, n.toNatClampNeg, fun _ => xdf t))) := by
  unfold xnwa at hx
  split at hx
  · split at hx
    · rename_i hb; cases hx; exact ⟨_, _, rfl, hb.1, hb.2, rfl⟩
    · cases hx
  · cases hx
theorem xrd_in {v : Value} (h : xrd v = true) : ∃ r : Option Nat, v = va_rf r := by
  cases v with
  | ref a => exact ⟨some a, rfl⟩
  | null => exact ⟨none, rfl⟩
  | _ => cases h
theorem xid_in {v : Value} (h : xid v = true) : ∃ x : Int32, v = .int x := by
  cases v with
  | int x => exact ⟨x, rfl⟩
  | _ => cases h
theorem xrf_inj {a b : Option Nat} : va_rf a = va_rf b ↔ a = b := by
  cases a <;> cases b <;> simp [va_rf]
section XR
variable {G : xG} {X : State → Prop} {l : Launch} {M pc : Nat} {L : List (Option Value)} {st : List Value} {h : xH} {out : xR}
theorem xs_aload {i d : Nat} (hdn : ∀ {p e R s m args below meth c H locs cells slots Q} {ls : Array Slot} {x : Nat}, p.tables.exec = Jvm.exec → c.code = xcode M → ls[i]? = some (.val (.ref x)) → W p l e R s m args below meth c H locs cells slots Q (F0 m (pc + d) ls (.ref x :: st)) → W p l e R s m args below meth c H locs cells slots Q (F0 m pc ls st))
    (hdN : ∀ {p e R s m args below meth c H locs cells slots Q} {ls : Array Slot}, p.tables.exec = Jvm.exec → c.code = xcode M → ls[i]? = some (.val .null) → W p l e R s m args below meth c H locs cells slots Q (F0 m (pc + d) ls (.null :: st)) → W p l e R s m args below meth c H locs cells slots Q (F0 m pc ls st))
    {q} (hx : xld i d xrd pc L st h = some q) (k : xP G X l M q.1 q.2.1 q.2.2.1 q.2.2.2 out) : xP G X l M pc L st h out := by
  obtain ⟨v, h1, h2, rfl⟩ := xld_in hx
  intro p e s m args below meth c H locs ls h0 C Z hL
  have K := k p e s m args below meth c H locs ls h0 C Z hL
  have hv := (hL.2.2.2 i v h1).1
  obtain ⟨r, rfl⟩ := xrd_in h2
  cases r with
  | none => exact hdN C.1 C.2.1 hv K
  | some a => exact hdn C.1 C.2.1 hv K
theorem xs_iload {i d : Nat} (hdn : ∀ {p e R s m args below meth c H locs cells slots Q} {ls : Array Slot} {x : Int32}, p.tables.exec = Jvm.exec → c.code = xcode M → ls[i]? = some (.val (.int x)) → W p l e R s m args below meth c H locs cells slots Q (F0 m (pc + d) ls (.int x :: st)) → W p l e R s m args below meth c H locs cells slots Q (F0 m pc ls st))
    {q} (hx : xld i d xid pc L st h = some q) (k : xP G X l M q.1 q.2.1 q.2.2.1 q.2.2.2 out) : xP G X l M pc L st h out := by
  obtain ⟨v, h1, h2, rfl⟩ := xld_in hx
  intro p e s m args below meth c H locs ls h0 C Z hL
  have K := k p e s m args below meth c H locs ls h0 C Z hL
  have hv := (hL.2.2.2 i v h1).1
  obtain ⟨x, rfl⟩ := xid_in h2
  exact hdn C.1 C.2.1 hv K
theorem xs_istore {i d : Nat} (hdn : ∀ {p e R s m args below meth c H locs cells slots Q} {ls : Array Slot} {x : Int32} {r : List Value} {nL : Nat} {lv : List (Nat × Value)}, p.tables.exec = Jvm.exec → c.code = xcode M → lv_has ls nL lv → i < nL → (∀ ls' : Array Slot, lv_has ls' nL ((i, Value.int x) :: lv.filter (fun q => !(q.1 == i) && !(q.1 + 1 == i && q.2.category == 2))) → W p l e R s m args below meth c H locs cells slots Q (F0 m (pc + d) ls' r)) → W p l e R s m args below meth c H locs cells slots Q (F0 m pc ls (.int x :: r)))
    {q} (hx : xso i d xid pc L st h = some q) (k : xP G X l M q.1 q.2.1 q.2.2.1 q.2.2.2 out) : xP G X l M pc L st h out := by
  obtain ⟨v, r, rfl, h1, h2, rfl⟩ := xso_in hx
  intro p e s m args below meth c H locs ls h0 C Z hL
  obtain ⟨x, rfl⟩ := xid_in h2
  exact hdn C.1 C.2.1 (xLoc_has hL) (by rw [← hL.2.2.1]; exact h1) (fun ls' hls => k p e s m args below meth c H locs ls' h0 C Z (xLoc_set hL rfl hls))
theorem xs_astore {i d : Nat} (hdn : ∀ {p e R s m args below meth c H locs cells slots Q} {ls : Array Slot} {x : Nat} {r : List Value} {nL : Nat} {lv : List (Nat × Value)}, p.tables.exec = Jvm.exec → c.code = xcode M → lv_has ls nL lv → i < nL → (∀ ls' : Array Slot, lv_has ls' nL ((i, Value.ref x) :: lv.filter (fun q => !(q.1 == i) && !(q.1 + 1 == i && q.2.category == 2))) → W p l e R s m args below meth c H locs cells slots Q (F0 m (pc + d) ls' r)) → W p l e R s m args below meth c H locs cells slots Q (F0 m pc ls (.ref x :: r)))
    (hdN : ∀ {p e R s m args below meth c H locs cells slots Q} {ls : Array Slot} {r : List Value} {nL : Nat} {lv : List (Nat × Value)}, p.tables.exec = Jvm.exec → c.code = xcode M → lv_has ls nL lv → i < nL → (∀ ls' : Array Slot, lv_has ls' nL ((i, Value.null) :: lv.filter (fun q => !(q.1 == i) && !(q.1 + 1 == i && q.2.category == 2))) → W p l e R s m args below meth c H locs cells slots Q (F0 m (pc + d) ls' r)) → W p l e R s m args below meth c H locs cells slots Q (F0 m pc ls (.null :: r)))
    {q} (hx : xso i d xrd pc L st h = some q) (k : xP G X l M q.1 q.2.1 q.2.2.1 q.2.2.2 out) : xP G X l M pc L st h out := by
  obtain ⟨v, r, rfl, h1, h2, rfl⟩ := xso_in hx
  intro p e s m args below meth c H locs ls h0 C Z hL
  obtain ⟨y, rfl⟩ := xrd_in h2
  cases y with
  | none => exact hdN C.1 C.2.1 (xLoc_has hL) (by rw [← hL.2.2.1]; exact h1) (fun ls' hls => k p e s m args below meth c H locs ls' h0 C Z (xLoc_set hL rfl hls))
  | some x => exact hdn C.1 C.2.1 (xLoc_has hL) (by rw [← hL.2.2.1]; exact h1) (fun ls' hls => k p e s m args below meth c H locs ls' h0 C Z (xLoc_set hL rfl hls))
theorem xs_i2 {f : Int32 → Int32 → Int32} (hdn : ∀ {p e R s m args below meth c H locs cells slots Q} {ls : Array Slot} {x y : Int32} {r : List Value}, p.tables.exec = Jvm.exec → c.code = xcode M → W p l e R s m args below meth c H locs cells slots Q (F0 m (pc + 1) ls (.int (f x y) :: r)) → W p l e R s m args below meth c H locs cells slots Q (F0 m pc ls (.int y :: .int x :: r)))
    {q} (hx : xi2 f pc L st h = some q) (k : xP G X l M q.1 q.2.1 q.2.2.1 q.2.2.2 out) : xP G X l M pc L st h out := by
  obtain ⟨x, y, r, rfl, rfl⟩ := xi2_in hx
  intro p e s m args below meth c H locs ls h0 C Z hL
  exact hdn C.1 C.2.1 (k p e s m args below meth c H locs ls h0 C Z hL)
/-- a branch on one condition -/
theorem xs_br {off : Int} {b : Bool} {cP : Prop} {r : List Value} (hb : b = true ↔ cP) (hdn : ∀ {p e R s m args below meth c H locs cells slots Q} {ls : Array Slot} {tgt : Nat}, p.tables.exec = Jvm.exec → c.code = xcode M → (pc : Int) + off = (tgt : Int) → (cP → W p l e R s m args below meth c H locs cells slots Q (F0 m tgt ls r)) → (¬ cP → W p l e R s m args below meth c H locs cells slots Q (F0 m (pc + 3) ls r)) → W p l e R s m args below meth c H locs cells slots Q (F0 m pc ls st))
    {q} (hx : xbr pc off b L r h = some q) (k : xP G X l M q.1 q.2.1 q.2.2.1 q.2.2.2 out) : xP G X l M pc L st h out := by
  obtain ⟨t, ht, rfl⟩ := xbr_in hx
  intro p e s m args below meth c H locs ls h0 C Z hL
  have K := k p e s m args below meth c H locs ls h0 C Z hL
  refine hdn C.1 C.2.1 ht (fun hc => ?_) (fun hc => ?_)
  · rw [if_pos (hb.mpr hc)] at K; exact K
  · rw [if_neg (fun q => hc (hb.mp q))] at K; exact K
end XR
