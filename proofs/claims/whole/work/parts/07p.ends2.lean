/-! ===== the class: ships come to their ends ===== -/
theorem th_ne (s : mS) {P j x W E : Nat} {v c : Int32} (hP : P ≤ 60) (hv : pmP P v) (hne : v ≠ nI j) (F : Nat) : th s v x c W E F j = s F j := by
  unfold th
  split
  · rfl
  · next h =>
    obtain ⟨p, hp, rfl⟩ := hv.resolve_left h
    have hj : ¬ j = p := fun q => hne (by rw [q])
    rw [nI_clamp (by omega)]
    have o : ∀ (s : mS) k w, su s k p w F j = s F j := fun s k w => by rw [su_get, if_neg (fun q => hj q.2)]
    have a5 : ∀ (s : mS) e, t5S s p x e F j = s F j := fun s e => by unfold t5S; split <;> exact o _ _ _
    have a4 : ∀ (s : mS), t4S s p x F j = s F j := fun s => o _ _ _
    have a3 : ∀ (s : mS), t3S s p x c F j = s F j := fun s => by
      unfold t3S
      split
      · rfl
      · rw [o, o]
    have a2 : ∀ (s : mS) e, t2S s p e F j = s F j := fun s e => by unfold t2S; rw [o, o]
    have a1 : ∀ (s : mS) e n, t1S s p e n F j = s F j := fun s e n => o _ _ _
    unfold f_through
    rw [a5, a4, a3, a2, a1]
theorem th_eq (s : mS) {p x W E : Nat} {c : Int32} (hp : p < 60) : th s (nI p) x c W E 8 p = (if s 20 x = 0 then 1 else if s 40 0 = 0 then 0 else 3) ∧ th s (nI p) x c W E 13 p = -1 ∧ th s (nI p) x c W E 9 p = (if s 20 x = 0 then nI (W + E) else s 9 p) ∧ th s (nI p) x c W E 14 p = (if s 20 x = 0 then s 14 p else nI (W + E) + s 40 0) := by
  unfold th
  rw [if_neg (nI_nm1 (by omega)), nI_clamp (by omega)]
  by_cases hc : c = 0 <;> by_cases h2 : s 20 x = 0 <;> simp [f_through, t1S, t2S, t3S, t4S, t5S, su_get, hc, h2]
def dI (s o : mS) (P : Nat) : Prop := cam s o P ∧ rod s o P ∧ abn s P
def thO (s o : mS) (v : Int32) (x : Nat) (e : Int32) : mS := if v = -1 then o else edO s o v.toNatClampNeg x e
theorem thO_o (s o : mS) (v : Int32) (x : Nat) (e : Int32) {F : Nat} (h1 : F ≠ 64) (h2 : F ≠ 65) (j : Nat) : thO s o v x e F j = o F j := by
  unfold thO edO
  split
  · rfl
  · split
    · exact su_other _ _ h1
    · exact su_other _ _ h2
theorem th_dI {s o : mS} {P x W E : Nat} {v c : Int32} (hP : P ≤ 60) (hv : pmP P v) (h : dI s o P) : dI (th s v x c W E) (thO s o v x (nI (W + E))) P := by
  rcases hv with rfl | ⟨p, hp, rfl⟩
  · simp only [th, thO, if_true]; exact h
  · have n1 : ¬ nI p = -1 := nI_nm1 (by omega)
    have cp_ : (nI p).toNatClampNeg = p := nI_clamp (by omega)
    obtain ⟨e8, e13, e9, e14⟩ := th_eq s (x := x) (W := W) (E := E) (c := c) (show p < 60 by omega)
    have ne : ∀ q, q < P → q ≠ p → ∀ F, th s (nI p) x c W E F q = s F q := fun q hq hne F => th_ne s hP (Or.inr ⟨p, hp, rfl⟩) (fun w => hne ((nI_eq (by omega) (by omega)).mp w).symm) F
    have no : ∀ q, q ≠ p → ∀ F, thO s o (nI p) x (nI (W + E)) F q = o F q := by
      intro q hq F
      unfold thO edO
      rw [if_neg n1, cp_]
      split
      · rw [su_get, if_neg (fun w => hq w.2)]
      · rw [su_get, if_neg (fun w => hq w.2)]
    refine ⟨fun q hq h8 => ?_, fun q hq h8 => ?_, fun q hq h8 => ?_⟩
    · by_cases w : q = p
      · subst w
        rw [e8] at h8
        by_cases a : s 20 x = 0
        · rw [e9, if_pos a]
          unfold thO edO
          rw [if_neg n1, cp_, if_pos (Or.inl a)]
          simp [su]
        · rw [if_neg a] at h8
          split at h8 <;> exact absurd h8 (by decide)
      · rw [ne q hq w] at h8 ⊢
        rw [no q w]
        exact h.1 q hq h8
    · by_cases w : q = p
      · subst w
        rw [e8] at h8
        by_cases a : s 20 x = 0
        · rw [if_pos a] at h8; exact absurd h8 (by decide)
        · rw [if_neg a] at h8
          by_cases b : s 40 0 = 0
          · rw [if_pos b] at h8; exact absurd h8 (by decide)
          · rw [e14, if_neg a]
            unfold thO edO
            rw [if_neg n1, cp_, if_neg (fun z => z.elim a b)]
            simp [su]
      · rw [ne q hq w] at h8 ⊢
        rw [no q w]
        exact h.2.1 q hq h8
    · by_cases w : q = p
      · subst w; exact e13
      · rw [ne q hq w] at h8 ⊢
        exact h.2.2 q hq h8
theorem dI_su {s o : mS} {P F j : Nat} {v : Int32} (h : dI s o P) (hF : F ≠ 8 ∧ F ≠ 9 ∧ F ≠ 13 ∧ F ≠ 14) : dI (su s F j v) o P := by
  have o8 : ∀ q, su s F j v 8 q = s 8 q := fun q => su_other _ _ (by omega)
  refine ⟨fun q hq h8 => ?_, fun q hq h8 => ?_, fun q hq h8 => ?_⟩
  · rw [o8] at h8; rw [su_other _ _ (by omega)]; exact h.1 q hq h8
  · rw [o8] at h8; rw [su_other _ _ (by omega)]; exact h.2.1 q hq h8
  · rw [o8] at h8; rw [su_other _ _ (by omega)]; exact h.2.2 q hq h8
/-- the ends keep ships and pilots in order -/
theorem ends_inv {s : mS} {P S L H x W E : Nat} (hP : P ≤ 60) (hS : S ≤ 400) (hx : x < S) (h : siv s P S L H) (h26 : s 26 x = 1) : siv (f_ends s x W E) P S L H := by
  have sx := h.2.1 x hx
  obtain ⟨_, r28, r29, r30, _⟩ := sx.1 h26
  obtain ⟨p28, p29, p30⟩ := sx.2.2
  have oo : ∀ F j, (F < 8 ∨ 15 < F) → F ≠ 26 → f_ends s x W E F j = s F j := fun F j h1 h2 => f_ends_o s x W E h1 h2 j
  have rb : ∀ p, p < P → (s 28 x = nI p ∨ s 29 x = nI p ∨ s 30 x = nI p) → s 8 p = 2 ∧ s 13 p = nI x := by
    intro p hp q
    have key : ∀ v, rl s P x v → v = nI p → s 8 p = 2 ∧ s 13 p = nI x := by
      intro v hv ev
      rcases hv with w | ⟨w, w1, w2, w3, w4⟩
      · rw [ev] at w; exact absurd w (nI_nm1 (by omega))
      · have : w = p := (nI_eq (by omega) (by omega)).mp (w2.symm.trans ev)
        subst this; exact ⟨w3, w4⟩
    rcases q with q | q | q
    · exact key _ r28 q
    · exact key _ r29 q
    · exact key _ r30 q
  -- a pilot of another place is as it was; one of x is through
  have out : ∀ p, p < P → ¬ (s 28 x = nI p ∨ s 29 x = nI p ∨ s 30 x = nI p) → ∀ F, f_ends s x W E F p = su s 26 x 2 F p := by
    intro p hp q F
    unfold f_ends
    rw [th_ne _ hP p30 (fun w => q (Or.inr (Or.inr w))), th_ne _ hP p29 (fun w => q (Or.inr (Or.inl w))), th_ne _ hP p28 (fun w => q (Or.inl w))]
  have thr : ∀ (s : mS) (v : Int32) (c : Int32) (p : Nat), p < P → pmP P v → (¬ s 8 p = 2 ∧ s 13 p = -1) ∨ v = nI p → ¬ th s v x c W E 8 p = 2 ∧ th s v x c W E 13 p = -1 := by
    intro s v c p hp hv q
    by_cases e : v = nI p
    · subst e
      obtain ⟨e8, e13, _, _⟩ := th_eq s (x := x) (W := W) (E := E) (c := c) (show p < 60 by omega)
      refine ⟨?_, e13⟩
      rw [e8]
      split
      · decide
      · split <;> decide
    · rw [th_ne _ hP hv e, th_ne _ hP hv e]
      exact q.resolve_right e
  have inn : ∀ p, p < P → (s 28 x = nI p ∨ s 29 x = nI p ∨ s 30 x = nI p) → ¬ f_ends s x W E 8 p = 2 ∧ f_ends s x W E 13 p = -1 := by
    intro p hp q
    unfold f_ends
    apply thr _ _ _ p hp p30
    by_cases q3 : s 30 x = nI p
    · exact Or.inr q3
    · refine Or.inl (thr _ _ _ p hp p29 ?_)
      by_cases q2 : s 29 x = nI p
      · exact Or.inr q2
      · refine Or.inl (thr _ _ _ p hp p28 (Or.inr ?_))
        rcases q with q | q | q
        · exact q
        · exact absurd q q2
        · exact absurd q q3
  have li : ∀ v, inL (f_ends s x W E) L v → inL s L v := fun v hv => inL_o hv (fun j => (oo _ _ (by decide) (by decide)).symm)
  have e26 : ∀ y, y ≠ x → f_ends s x W E 26 y = s 26 y := fun y hy => f_ends_26 s x W E y hy
  have e26x := f_ends_26x s x W E
  refine ⟨lOK_o h.1 (fun j => oo _ _ (by decide) (by decide)) (oo _ _ (by decide) (by decide)), fun y hy => ?_, ⟨fun p hp => ?_, fun p hp hi => ?_⟩, ⟨fun y hy q1 q2 p hp q3 => ?_, fun p hp hi => ?_⟩⟩
  · by_cases e : y = x
    · subst e
      refine ⟨fun q => ?_, fun q => ?_, ?_⟩
      · rw [e26x] at q; exact absurd q (by decide)
      · rw [e26x] at q; exact absurd q (by decide)
      · rw [oo 28 _ (by decide) (by decide), oo 29 _ (by decide) (by decide), oo 30 _ (by decide) (by decide)]
        exact sx.2.2
    · refine shI_o (h.2.1 y hy) (fun F h1 h2 => ?_) (fun p hp q1 q2 => ?_)
      · by_cases f : F = 26
        · subst f; exact e26 y e
        · exact oo _ _ (by omega) f
      · have : ¬ (s 28 x = nI p ∨ s 29 x = nI p ∨ s 30 x = nI p) := by
          intro q
          have := (rb p hp q).2
          rw [q2] at this
          exact e ((nI_eq (by omega) (by omega)).mp this)
        rw [out p hp this, out p hp this, su_other _ _ (by decide), su_other _ _ (by decide)]
        exact ⟨q1, q2⟩
  · by_cases q : s 28 x = nI p ∨ s 29 x = nI p ∨ s 30 x = nI p
    · obtain ⟨i1, i2⟩ := inn p hp q
      exact ⟨fun w => absurd w i1, fun _ => i2⟩
    · rw [out p hp q, out p hp q, su_other _ _ (by decide), su_other _ _ (by decide)]
      exact h.2.2.1.1 p hp
  · by_cases q : s 28 x = nI p ∨ s 29 x = nI p ∨ s 30 x = nI p
    · exact (inn p hp q).1
    · rw [out p hp q, su_other _ _ (by decide)]
      exact h.2.2.1.2 p hp (li _ hi)
  · by_cases e : y = x
    · subst e; rw [e26x] at q1; exact absurd q1 (by decide)
    · rw [e26 y e] at q1
      rw [oo _ _ (by decide) (by decide)] at q2
      rw [oo 28 _ (by decide) (by decide), oo 29 _ (by decide) (by decide), oo 30 _ (by decide) (by decide)] at q3
      rw [oo _ _ (by decide) (by decide)]
      exact h.2.2.2.1 y hy q1 q2 p hp q3
  · rw [oo _ _ (by decide) (by decide)]
    exact h.2.2.2.2 p hp (li _ hi)
section CE2
variable {g : Nat × Nat × Nat} {A : Nat → Nat → Nat} {z : zT} {s o s' o' : mS} {P S : Nat}
theorem cd_th {x W E : Nat} {v c : Int32} {a3 a4 : Option Value} (hY : zok g A z P S) (hx : x < S) (hv : pmP P v) (hW : s 27 x = nI W) (hE : 1 + s 21 x / 100 = nI E) (hWE : W + E < 2 ^ 31) (hH : s 1 0 = nI (W + E)) (h30 : pmP P (s 30 x)) (hc : v ≠ -1 → (c = 0 ↔ s 30 x = v)) : Ev g 101 0 [some (.ref (A 0 0)), some (.ref (A 34 x)), some (rP A v), a3, a4] [] (cp A z s o) (.inl none, cp A z (th s v x c W E) (thO s o v x (nI (W + E)))) := by
  have h6 := hY.2.2.2.2.2.1.1
  rcases hv with rfl | ⟨p, hp, rfl⟩
  · simp only [th, thO, if_true]
    exact cd_endDuty0
  · have n1 : ¬ nI p = -1 := nI_nm1 (by omega)
    have cp_ : (nI p).toNatClampNeg = p := nI_clamp (by omega)
    unfold th thO
    rw [if_neg n1, if_neg n1, cp_]
    exact cd_endDuty hY hx hp hW hE hWE hH h30 (hc n1)
theorem lp_cends {H L : Nat} (hH : H < 2 ^ 31) : ∀ (f x : Nat) (s o : mS) (a2 : Option Value), x + f = S → zo g A z o P S → s 19 0 = nI S → s 1 0 = nI H → siv s P S L H → (∀ y, y < S → ∃ n, n ≤ 400 ∧ s 21 y = nI n) → dI s o P → ∃ o', (∀ F j, F ≠ 64 → F ≠ 65 → o' F j = o F j) ∧ siv (enS H f x s) P S L H ∧ dI (enS H f x s) o' P ∧ Ev g 100 2 [some (.ref (A 0 0)), some (.int (nI x)), a2] [] (cp A z s o) (.inl none, cp A z (enS H f x s) o') := by
  intro f
  induction f with
  | zero =>
    intro x s o a2 hx hz hS hN hv hl hd
    have hY := hz.1
    have hS4 := hY.2.2.2.2.2.1.2
    have k1 := ss_size (g := g) (A := A) (s := s) hz hS
    have h2 : nI S ≤ nI x := nI_le (by omega) (by omega)
    refine ⟨o, fun _ _ _ _ => rfl, hv, hd, ?_⟩
    simp only [e_X9_endShips_0, e_X9_endShips_1, e_X9_endShips_2, e_X9_endShips_3, e_X9_endShips_4, e_X9_endShips_10, e_X9_endShips_13, e_X9_endShips_14, e_X9_endShips_17, e_X9_endShips_21n, e_X9_endShips_21, e_X9_endShips_24, e_X9_endShips_25, e_X9_endShips_26, e_X9_endShips_29, e_X9_endShips_32, e_X9_endShips_33, e_X9_endShips_36, e_X9_endShips_37, e_X9_endShips_40, e_X9_endShips_43, e_X9_endShips_47, e_X9_endShips_48, e_X9_endShips_49, e_X9_endShips_52, e_X9_endShips_55, e_X9_endShips_56, e_X9_endShips_59, e_X9_endShips_60, e_X9_endShips_63, e_X9_endShips_64, e_X9_endShips_65, e_X9_endShips_66, e_X9_endShips_69, e_X9_endShips_75, e_X9_endShips_76, e_X9_endShips_77, e_X9_endShips_78, e_X9_endShips_81, e_X9_endShips_87, e_X9_endShips_88, e_X9_endShips_89, e_X9_endShips_90, e_X9_endShips_93, e_X9_endShips_99, e_X9_endShips_102, e_X9_endShips_105, cO_0 hY, cg_0_1 hY, cO_34 hY, cg_34_7 hY, cO_35 hY, cg_35_0 hY, cO_36 hY, cg_36_0 hY, cg_35_1 hY, cg_36_1 hY, cg_0_10 hY, hb_35 hY, cw_35_0 hY, hb_36 hY, cw_36_0 hY, cg_35_2 hY, cg_36_2 hY, cg_35_3 hY, cg_36_3 hY, cg_35_4 hY, cg_36_4 hY, rP_n, rS_n, xrd_rP, xrd_rS, xfit_rP, xfit_rS, xcat_rP, xcat_rS, nem, su_get, z1e0, z2e0, z3e0, z4e0, z5e0, z0e1, zme0, Nat.reduceEqDiff, not_true_eq_false, and_self, false_or, or_false, or_self,  bI_eq0, bI_eq1, i10, i20, i30, i00, ne_eq, Decidable.not_not, true_and, and_true, false_and, and_false, xrd_ref, xrd_null, xrd_rf, xid_int, xcat_int, xcat_ref, xcat_null, xcat_long, xcat_rf, xfit_int, xfit_0, xfit_1, xfit_ref, xfit_null, xfit_rf, not_false_eq_true, ↓reduceIte, z01_0, z01_1, bI_01, true_or, or_true, c_X9_endShips_7 (cO_2 hY) k1, h2, enS]
  | succ f ih =>
    intro x s o a2 hx hz hS hN hv hl hd
    have hY := hz.1
    have hS4 := hY.2.2.2.2.2.1.2
    have hP60 := hY.2.2.2.2.2.1.1
    have k1 := ss_size (g := g) (A := A) (s := s) hz hS
    have h2 : ¬ nI S ≤ nI x := nI_ge (by omega) (by omega)
    have hxS : x < S := by omega
    have k2 := ss_get (g := g) (A := A) (s := s) hz hS hxS
    have k3 := cd_led (g := g) (s := s) (o := o) hY hxS
    rw [enS]
    by_cases a : s 26 x = 1
    · by_cases b : s 27 x + (1 + s 21 x / 100) = nI H
      · rw [if_pos ⟨a, b⟩]
        obtain ⟨⟨W, W1, W2⟩, r28, r29, r30, dd⟩ := (hv.2.1 x hxS).1 a
        obtain ⟨p28, p29, p30⟩ := (hv.2.1 x hxS).2.2
        obtain ⟨n, n1, n2⟩ := hl x hxS
        have hE : 1 + s 21 x / 100 = nI (1 + n / 100) := by rw [n2]; exact nI_led n1
        have eW : nW s x = W := by unfold nW; rw [W2, nI_clamp (by omega)]
        have eE : nE s x = 1 + n / 100 := by unfold nE; rw [hE, nI_clamp (by omega)]
        have WE : W + (1 + n / 100) = H := by
          rw [W2, hE, nI_add] at b
          exact (nI_eq (by omega) hH).mp b
        rw [eW, eE]
        generalize hEE : 1 + n / 100 = E at hE WE
        -- the three of them
        have oa : ∀ F j, F ≠ 26 → su s 26 x 2 F j = s F j := fun F j h => su_other _ _ h
        have q1 := cd_th (g := g) (A := A) (z := z) (s := su s 26 x 2) (o := o) (x := x) (W := W) (E := E) (v := s 28 x) (c := 1) (a3 := none) (a4 := none) hY hxS p28 (by rw [oa _ _ (by decide)]; exact W2) (by rw [oa _ _ (by decide)]; exact hE) (by omega) (by rw [oa _ _ (by decide), WE]; exact hN) (by rw [oa _ _ (by decide)]; exact p30) (fun hne => ⟨fun w => absurd w (by decide), fun w => by
          rw [oa _ _ (by decide)] at w
          exact absurd w.symm (dd.2.1.resolve_left hne)⟩)
        have ob : ∀ F j, F < 8 ∨ 15 < F → F ≠ 26 → th (su s 26 x 2) (s 28 x) x 1 W E F j = s F j := fun F j h1 h2 => by rw [th_o _ _ _ _ _ _ h1, oa _ _ h2]
        have q2 := cd_th (g := g) (A := A) (z := z) (s := th (su s 26 x 2) (s 28 x) x 1 W E) (o := thO (su s 26 x 2) o (s 28 x) x (nI (W + E))) (x := x) (W := W) (E := E) (v := s 29 x) (c := 1) (a3 := none) (a4 := none) hY hxS p29 (by rw [ob _ _ (by decide) (by decide)]; exact W2) (by rw [ob _ _ (by decide) (by decide)]; exact hE) (by omega) (by rw [ob _ _ (by decide) (by decide), WE]; exact hN) (by rw [ob _ _ (by decide) (by decide)]; exact p30) (fun hne => ⟨fun w => absurd w (by decide), fun w => by
          rw [ob _ _ (by decide) (by decide)] at w
          exact absurd w.symm (dd.2.2.resolve_left hne)⟩)
        have oc : ∀ F j, F < 8 ∨ 15 < F → F ≠ 26 → th (th (su s 26 x 2) (s 28 x) x 1 W E) (s 29 x) x 1 W E F j = s F j := fun F j h1 h2 => by rw [th_o _ _ _ _ _ _ h1, ob _ _ h1 h2]
        have q3 := cd_th (g := g) (A := A) (z := z) (s := th (th (su s 26 x 2) (s 28 x) x 1 W E) (s 29 x) x 1 W E) (o := thO (th (su s 26 x 2) (s 28 x) x 1 W E) (thO (su s 26 x 2) o (s 28 x) x (nI (W + E))) (s 29 x) x (nI (W + E))) (x := x) (W := W) (E := E) (v := s 30 x) (c := 0) (a3 := none) (a4 := none) hY hxS p30 (by rw [oc _ _ (by decide) (by decide)]; exact W2) (by rw [oc _ _ (by decide) (by decide)]; exact hE) (by omega) (by rw [oc _ _ (by decide) (by decide), WE]; exact hN) (by rw [oc _ _ (by decide) (by decide)]; exact p30) (fun hne => ⟨fun w => oc _ _ (by decide) (by decide), fun w => rfl⟩)
        have d1 := th_dI (x := x) (W := W) (E := E) (c := 1) hP60 p28 (dI_su (F := 26) (j := x) (v := 2) hd (by decide))
        have d2 := th_dI (x := x) (W := W) (E := E) (c := 1) hP60 p29 d1
        have d3 := th_dI (x := x) (W := W) (E := E) (c := 0) hP60 p30 d2
        have fo : ∀ F j, F < 8 ∨ 15 < F → F ≠ 26 → f_ends s x W E F j = s F j := fun F j h1 h2 => f_ends_o s x W E h1 h2 j
        generalize ho3 : thO (th (th (su s 26 x 2) (s 28 x) x 1 W E) (s 29 x) x 1 W E) (thO (th (su s 26 x 2) (s 28 x) x 1 W E) (thO (su s 26 x 2) o (s 28 x) x (nI (W + E))) (s 29 x) x (nI (W + E))) (s 30 x) x (nI (W + E)) = o3 at q3 d3
        have oo3 : ∀ F j, F ≠ 64 → F ≠ 65 → o3 F j = o F j := fun F j h1 h2 => by rw [← ho3, thO_o _ _ _ _ _ h1 h2, thO_o _ _ _ _ _ h1 h2, thO_o _ _ _ _ _ h1 h2]
        have q3' : Ev g 101 0 [some (.ref (A 0 0)), some (.ref (A 34 x)), some (rP A (s 30 x)), none, none] [] (cp A z (th (th (su s 26 x 2) (s 28 x) x 1 W E) (s 29 x) x 1 W E) (thO (th (su s 26 x 2) (s 28 x) x 1 W E) (thO (su s 26 x 2) o (s 28 x) x (nI (W + E))) (s 29 x) x (nI (W + E)))) (.inl none, cp A z (f_ends s x W E) o3) := q3
        obtain ⟨o4, r1, r2, r3, r4⟩ := ih (x + 1) (f_ends s x W E) o3 (some (.ref (A 34 x))) (by omega) (zo_o hz (oo3 _ _ (by decide) (by decide)) (oo3 _ _ (by decide) (by decide)) (oo3 _ _ (by decide) (by decide)) (fun j => oo3 _ _ (by decide) (by decide)) (fun j => oo3 _ _ (by decide) (by decide)) (fun j => oo3 _ _ (by decide) (by decide))) (by rw [fo _ _ (by decide) (by decide)]; exact hS) (by rw [fo _ _ (by decide) (by decide)]; exact hN) (ends_inv hP60 hS4 hxS hv a) (fun y hy => by rw [fo _ _ (by decide) (by decide)]; exact hl y hy) d3
        refine ⟨o4, fun F j h1 h2 => (r1 F j h1 h2).trans (oo3 F j h1 h2), r2, r3, ?_⟩
        rw [e_X9_endShips_2 rfl]
        simp only [e_X9_endShips_3, e_X9_endShips_4, e_X9_endShips_10, e_X9_endShips_13, e_X9_endShips_14, e_X9_endShips_17, e_X9_endShips_21n, e_X9_endShips_21, e_X9_endShips_24, e_X9_endShips_25, e_X9_endShips_26, e_X9_endShips_29, e_X9_endShips_32, e_X9_endShips_33, e_X9_endShips_36, e_X9_endShips_37, e_X9_endShips_40, e_X9_endShips_43, e_X9_endShips_47, e_X9_endShips_48, e_X9_endShips_49, e_X9_endShips_52, e_X9_endShips_55, e_X9_endShips_56, e_X9_endShips_59, e_X9_endShips_60, e_X9_endShips_63, e_X9_endShips_64, e_X9_endShips_65, e_X9_endShips_66, e_X9_endShips_69, e_X9_endShips_75, e_X9_endShips_76, e_X9_endShips_77, e_X9_endShips_78, e_X9_endShips_81, e_X9_endShips_87, e_X9_endShips_88, e_X9_endShips_89, e_X9_endShips_90, e_X9_endShips_93, e_X9_endShips_99, e_X9_endShips_102, e_X9_endShips_105, cO_0 hY, cg_0_1 hY, cO_34 hY, cg_34_7 hY, cO_35 hY, cg_35_0 hY, cO_36 hY, cg_36_0 hY, cg_35_1 hY, cg_36_1 hY, cg_0_10 hY, hb_35 hY, cw_35_0 hY, hb_36 hY, cw_36_0 hY, cg_35_2 hY, cg_36_2 hY, cg_35_3 hY, cg_36_3 hY, cg_35_4 hY, cg_36_4 hY, rP_n, rS_n, xrd_rP, xrd_rS, xfit_rP, xfit_rS, xcat_rP, xcat_rS, nem, su_get, z1e0, z2e0, z3e0, z4e0, z5e0, z0e1, zme0, Nat.reduceEqDiff, not_true_eq_false, and_self, false_or, or_false, or_self,  bI_eq0, bI_eq1, i10, i20, i30, i00, ne_eq, Decidable.not_not, true_and, and_true, false_and, and_false, xrd_ref, xrd_null, xrd_rf, xid_int, xcat_int, xcat_ref, xcat_null, xcat_long, xcat_rf, xfit_int, xfit_0, xfit_1, xfit_ref, xfit_null, xfit_rf, not_false_eq_true, ↓reduceIte, z01_0, z01_1, bI_01, true_or, or_true, c_X9_endShips_7 (cO_2 hY) k1, c_X9_endShips_18 (cO_2 hY) k2, c_X9_endShips_44 (cO_34 hY hxS) k3, c_X9_endShips_72 _ _ (cO_0 hY) q1, c_X9_endShips_84 _ _ (cO_0 hY) q2, c_X9_endShips_96 _ _ (cO_0 hY) q3', ob 29 x (by decide) (by decide), oc 30 x (by decide) (by decide), h2, hxS, a, b, hN, nI_1]
        exact r4
      · rw [if_neg (fun q => b q.2)]
        obtain ⟨o4, r1, r2, r3, r4⟩ := ih (x + 1) s o (some (.ref (A 34 x))) (by omega) hz hS hN hv hl hd
        refine ⟨o4, r1, r2, r3, ?_⟩
        rw [e_X9_endShips_2 rfl]
        simp only [e_X9_endShips_3, e_X9_endShips_4, e_X9_endShips_10, e_X9_endShips_13, e_X9_endShips_14, e_X9_endShips_17, e_X9_endShips_21n, e_X9_endShips_21, e_X9_endShips_24, e_X9_endShips_25, e_X9_endShips_26, e_X9_endShips_29, e_X9_endShips_32, e_X9_endShips_33, e_X9_endShips_36, e_X9_endShips_37, e_X9_endShips_40, e_X9_endShips_43, e_X9_endShips_47, e_X9_endShips_48, e_X9_endShips_49, e_X9_endShips_52, e_X9_endShips_55, e_X9_endShips_56, e_X9_endShips_59, e_X9_endShips_60, e_X9_endShips_63, e_X9_endShips_64, e_X9_endShips_65, e_X9_endShips_66, e_X9_endShips_69, e_X9_endShips_75, e_X9_endShips_76, e_X9_endShips_77, e_X9_endShips_78, e_X9_endShips_81, e_X9_endShips_87, e_X9_endShips_88, e_X9_endShips_89, e_X9_endShips_90, e_X9_endShips_93, e_X9_endShips_99, e_X9_endShips_102, e_X9_endShips_105, cO_0 hY, cg_0_1 hY, cO_34 hY, cg_34_7 hY, cO_35 hY, cg_35_0 hY, cO_36 hY, cg_36_0 hY, cg_35_1 hY, cg_36_1 hY, cg_0_10 hY, hb_35 hY, cw_35_0 hY, hb_36 hY, cw_36_0 hY, cg_35_2 hY, cg_36_2 hY, cg_35_3 hY, cg_36_3 hY, cg_35_4 hY, cg_36_4 hY, rP_n, rS_n, xrd_rP, xrd_rS, xfit_rP, xfit_rS, xcat_rP, xcat_rS, nem, su_get, z1e0, z2e0, z3e0, z4e0, z5e0, z0e1, zme0, Nat.reduceEqDiff, not_true_eq_false, and_self, false_or, or_false, or_self,  bI_eq0, bI_eq1, i10, i20, i30, i00, ne_eq, Decidable.not_not, true_and, and_true, false_and, and_false, xrd_ref, xrd_null, xrd_rf, xid_int, xcat_int, xcat_ref, xcat_null, xcat_long, xcat_rf, xfit_int, xfit_0, xfit_1, xfit_ref, xfit_null, xfit_rf, not_false_eq_true, ↓reduceIte, z01_0, z01_1, bI_01, true_or, or_true, c_X9_endShips_7 (cO_2 hY) k1, c_X9_endShips_18 (cO_2 hY) k2, c_X9_endShips_44 (cO_34 hY hxS) k3, h2, hxS, a, b, hN, nI_1]
        exact r4
    · rw [if_neg (fun q => a q.1)]
      obtain ⟨o4, r1, r2, r3, r4⟩ := ih (x + 1) s o (some (.ref (A 34 x))) (by omega) hz hS hN hv hl hd
      refine ⟨o4, r1, r2, r3, ?_⟩
      rw [e_X9_endShips_2 rfl]
      simp only [e_X9_endShips_3, e_X9_endShips_4, e_X9_endShips_10, e_X9_endShips_13, e_X9_endShips_14, e_X9_endShips_17, e_X9_endShips_21n, e_X9_endShips_21, e_X9_endShips_24, e_X9_endShips_25, e_X9_endShips_26, e_X9_endShips_29, e_X9_endShips_32, e_X9_endShips_33, e_X9_endShips_36, e_X9_endShips_37, e_X9_endShips_40, e_X9_endShips_43, e_X9_endShips_47, e_X9_endShips_48, e_X9_endShips_49, e_X9_endShips_52, e_X9_endShips_55, e_X9_endShips_56, e_X9_endShips_59, e_X9_endShips_60, e_X9_endShips_63, e_X9_endShips_64, e_X9_endShips_65, e_X9_endShips_66, e_X9_endShips_69, e_X9_endShips_75, e_X9_endShips_76, e_X9_endShips_77, e_X9_endShips_78, e_X9_endShips_81, e_X9_endShips_87, e_X9_endShips_88, e_X9_endShips_89, e_X9_endShips_90, e_X9_endShips_93, e_X9_endShips_99, e_X9_endShips_102, e_X9_endShips_105, cO_0 hY, cg_0_1 hY, cO_34 hY, cg_34_7 hY, cO_35 hY, cg_35_0 hY, cO_36 hY, cg_36_0 hY, cg_35_1 hY, cg_36_1 hY, cg_0_10 hY, hb_35 hY, cw_35_0 hY, hb_36 hY, cw_36_0 hY, cg_35_2 hY, cg_36_2 hY, cg_35_3 hY, cg_36_3 hY, cg_35_4 hY, cg_36_4 hY, rP_n, rS_n, xrd_rP, xrd_rS, xfit_rP, xfit_rS, xcat_rP, xcat_rS, nem, su_get, z1e0, z2e0, z3e0, z4e0, z5e0, z0e1, zme0, Nat.reduceEqDiff, not_true_eq_false, and_self, false_or, or_false, or_self,  bI_eq0, bI_eq1, i10, i20, i30, i00, ne_eq, Decidable.not_not, true_and, and_true, false_and, and_false, xrd_ref, xrd_null, xrd_rf, xid_int, xcat_int, xcat_ref, xcat_null, xcat_long, xcat_rf, xfit_int, xfit_0, xfit_1, xfit_ref, xfit_null, xfit_rf, not_false_eq_true, ↓reduceIte, z01_0, z01_1, bI_01, true_or, or_true, c_X9_endShips_7 (cO_2 hY) k1, c_X9_endShips_18 (cO_2 hY) k2, h2, hxS, a, nI_1]
      exact r4
theorem cd_ends {H L : Nat} {a2 : Option Value} (hH : H < 2 ^ 31) (hz : zo g A z o P S) (hS : s 19 0 = nI S) (hN : s 1 0 = nI H) (hv : siv s P S L H) (hl : ∀ y, y < S → ∃ n, n ≤ 400 ∧ s 21 y = nI n) (hd : dI s o P) : ∃ o', (∀ F j, F ≠ 64 → F ≠ 65 → o' F j = o F j) ∧ siv (enS H S 0 s) P S L H ∧ dI (enS H S 0 s) o' P ∧ Ev g 100 0 [some (.ref (A 0 0)), none, a2] [] (cp A z s o) (.inl none, cp A z (enS H S 0 s) o') := by
  obtain ⟨o4, r1, r2, r3, r4⟩ := lp_cends (g := g) (A := A) (z := z) (P := P) (S := S) hH S 0 s o a2 (by omega) hz hS hN hv hl hd
  rw [nI_0] at r4
  refine ⟨o4, r1, r2, r3, ?_⟩
  simp only [e_X9_endShips_0, e_X9_endShips_1, nem, su_get, z1e0, z2e0, z3e0, z4e0, z5e0, z0e1, zme0, Nat.reduceEqDiff, not_true_eq_false, and_self, false_or, or_false, or_self,  bI_eq0, bI_eq1, i10, i20, i30, i00, ne_eq, Decidable.not_not, true_and, and_true, false_and, and_false, xrd_ref, xrd_null, xrd_rf, xid_int, xcat_int, xcat_ref, xcat_null, xcat_long, xcat_rf, xfit_int, xfit_0, xfit_1, xfit_ref, xfit_null, xfit_rf, not_false_eq_true, ↓reduceIte, z01_0, z01_1, bI_01, true_or, or_true]
  exact r4
end CE2
