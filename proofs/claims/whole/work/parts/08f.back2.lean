/-! ===== the class's back: its loop over places ===== -/
theorem su_comm (s : mS) {F G i j : Nat} {v w : Int32} (h : F ≠ G) : su (su s F i v) G j w = su (su s G j w) F i v := by
  funext k l
  simp only [su_get]
  by_cases a : k = G ∧ l = j
  · rw [if_pos a, if_pos a, if_neg (by omega)]
  · rw [if_neg a, if_neg a]
theorem paS_su (s : mS) {G j : Nat} {v : Int32} (h : G ≠ 17) : ∀ f i, paS (su s G j v) f i = su (paS s f i) G j v := by
  intro f
  induction f generalizing s with
  | zero => intro i; rfl
  | succ f ih =>
    intro i
    rw [paS, paS, su_other _ _ (Ne.symm h), su_comm _ h, ih]
theorem ptS_su (s : mS) {G j a L : Nat} {v p : Int32} (h1 : G ≠ 17) (h2 : G ≠ 18) : ptS (su s G j v) p a L = su (ptS s p a L) G j v := by
  unfold ptS
  rw [paS_su _ h1, su_comm _ h1, su_comm _ h2]
theorem bkP_su (s : mS) {G j x p : Nat} {v : Int32} (h : G ≠ 1 ∧ G ≠ 8 ∧ G ≠ 9 ∧ G ≠ 13 ∧ G ≠ 20) : bkP (su s G j v) x p = su (bkP s x p) G j v := by
  unfold bkP
  rw [su_other _ _ (Ne.symm h.2.2.2.2), su_other _ _ (Ne.symm h.1)]
  split
  · rw [su_comm _ h.2.1, su_comm _ h.2.2.2.1]
  · rw [su_comm _ h.2.1, su_comm _ h.2.2.1, su_comm _ h.2.2.2.1]
theorem bkQ_su (s : mS) {G j x p : Nat} {v : Int32} (h : G ≠ 1 ∧ G ≠ 8 ∧ G ≠ 9 ∧ G ≠ 13 ∧ G ≠ 20) (h2 : G ≠ 16 ∧ G ≠ 17 ∧ G ≠ 18) : bkQ (su s G j v) x p = su (bkQ s x p) G j v := by
  unfold bkQ bkN nL
  rw [su_other _ _ (Ne.symm h2.1), su_other _ _ (Ne.symm h2.2.2), bkP_su _ h, ptS_su _ h2.2.1 h2.2.2]
theorem bkB_su (s : mS) {G j : Nat} {v : Int32} (h : G ≠ 16) (c : Nat → Int32) : ∀ f i b, bkB (su s G j v) c f i b = bkB s c f i b := by
  intro f
  induction f with
  | zero => intro i b; rfl
  | succ f ih => intro i b; rw [bkB, bkB, su_other _ _ (Ne.symm h), su_other _ _ (Ne.symm h), ih, ih]
theorem bkL_su {G j x : Nat} {v : Int32} (h : G ≠ 1 ∧ G ≠ 8 ∧ G ≠ 9 ∧ G ≠ 13 ∧ G ≠ 20) (h2 : G ≠ 16 ∧ G ≠ 17 ∧ G ≠ 18) : ∀ f c (s : mS), (bkL x f c (su s G j v)).1 = su (bkL x f c s).1 G j v := by
  intro f
  induction f with
  | zero => intro c s; rfl
  | succ f ih =>
    intro c s
    rw [bkL, bkL, bkB_su _ h2.1]
    split
    · exact ih _ _
    · rw [bkQ_su _ h h2]; exact ih _ _
theorem bkL_bkA (x f : Nat) (c : Nat → Int32) (s : mS) : (bkL x f c (bkA s x)).1 = bkA (bkL x f c s).1 x := by
  unfold bkA
  rw [bkL_su (by decide) (by decide), bkL_su (by decide) (by decide), bkL_su (by decide) (by decide), bkL_su (by decide) (by decide)]
theorem bkL_none {x : Nat} {c : Nat → Int32} {s : mS} (h : bkB s c 3 0 (-1) = -1) : ∀ f, bkL x f c s = (s, c) := by
  intro f
  induction f with
  | zero => rfl
  | succ f ih => rw [bkL, if_pos h]; exact ih
theorem bkQ_o (s : mS) (x p : Nat) {F : Nat} (h1 : F ≠ 8) (h2 : F ≠ 9) (h3 : F ≠ 13) (h4 : F ≠ 17) (h5 : F ≠ 18) (j : Nat) : bkQ s x p F j = s F j := by
  unfold bkQ
  rw [ptS_o _ _ _ _ h4 h5, bkP_o _ _ _ h1 h2 h3]
theorem bkP_8 (s : mS) (x p j : Nat) : bkP s x p 8 j = (if j = p then (if s 20 x = 0 then 0 else 1) else s 8 j) ∧ bkP s x p 13 j = (if j = p then -1 else s 13 j) ∧ bkP s x p 9 j = (if j = p ∧ ¬ s 20 x = 0 then s 1 0 else s 9 j) := by
  unfold bkP
  by_cases a : s 20 x = 0 <;> by_cases e : j = p <;> simp [su_get, a, e]
def nC (c : Nat → Int32) : Nat := (if c 0 = -1 then 0 else 1) + (if c 1 = -1 then 0 else 1) + (if c 2 = -1 then 0 else 1)
theorem nC_pos {c : Nat → Int32} {j : Nat} (hj : j < 3) (h : ¬ c j = -1) : 1 ≤ nC c := by
  unfold nC
  have : j = 0 ∨ j = 1 ∨ j = 2 := by omega
  rcases this with rfl | rfl | rfl
  · rw [if_neg h]; omega
  · rw [if_neg h]; omega
  · rw [if_neg h]; omega
theorem nC_cu {c : Nat → Int32} {j : Nat} (hj : j < 3) (h : ¬ c j = -1) : nC (cu c j (-1)) + 1 = nC c := by
  have : j = 0 ∨ j = 1 ∨ j = 2 := by omega
  unfold nC cu
  rcases this with rfl | rfl | rfl
  · simp [h]; omega
  · simp [h]; omega
  · simp [h]
section BK
variable {g : Nat × Nat × Nat} {A : Nat → Nat → Nat} {P S : Nat}
theorem lp_cback {x T : Nat} {c0 : Nat → Int32} (hx : x < S) : ∀ (f v r L : Nat) (z : zT) (s o : mS) (c : Nat → Int32) (a5 : Option Value), v + f = 60 → zo g A z o P S → L ≤ z.1.2.2 3 → s 1 0 = nI T → s 28 x = c0 0 → s 29 x = c0 1 → s 30 x = c0 2 → (∀ j, j < 3 → pmP P (c0 j)) → bOK s c P L → (∀ j, j < 3 → c j = -1 ∨ c j = c0 j) → (∀ j p, j < 3 → p < P → c0 j = nI p → ∃ b, b < 60 ∧ s 16 p = nI b ∧ o 66 p = nI b ∧ (c j = nI p ↔ v ≤ b)) → (∀ i j p q, i < 3 → j < 3 → p < P → q < P → c0 i = nI p → c0 j = nI q → s 16 p = s 16 q → i = j) → nC c ≤ r → dI s o P → ∃ z' o' L', zo g A z' o' P S ∧ zle g A z z' P S ∧ L' ≤ z'.1.2.2 3 ∧ (∀ F j, F ≠ 63 → F ≠ 64 → o' F j = o F j) ∧ dI (bkL x r c s).1 o' P ∧ lOK (bkL x r c s).1 P L' ∧ Ev g 66 24 [some (.ref (A 0 0)), some (.int (nI x)), some (.ref (A 34 x)), some (.ref (A 35 x)), some (.int (nI v)), a5] [] (cp A z s o) (.inl (some (.int 1)), cp A z' (bkA (bkL x r c s).1 x) o') := by
  intro f
  induction f with
  | zero =>
    intro v r L z s o c a5 hv hz hc hT e28 e29 e30 hpm hb hcc hbb hdst hr hd
    have hY := hz.1
    have hP60 := hY.2.2.2.2.2.1.1
    have hv60 : v = 60 := by omega
    subst hv60
    have all : ∀ j, j < 3 → c j = -1 := by
      intro j hj
      rcases hcc j hj with q | q
      · exact q
      · rcases hpm j hj with w | ⟨p, hp, w⟩
        · rw [q, w]
        · obtain ⟨b, b1, b2, b3, b4⟩ := hbb j p hj hp w
          have := b4.mp (q.trans w)
          omega
    have none_ : bkB s c 3 0 (-1) = -1 := by
      have : ∀ f i b, i + f = 3 → bkB s c f i b = b := by
        intro f
        induction f with
        | zero => intro i b _; rfl
        | succ f ih => intro i b hi; rw [bkB, if_neg (fun q => q.1 (all i (by omega)))]; exact ih _ _ (by omega)
      exact this 3 0 (-1) rfl
    rw [bkL_none none_]
    have h2 : (60 : Int32) ≤ nI 60 := by rw [nI_60]; decide
    have k1 := cd_turnBack (g := g) (A := A) (z := z) (s := s) (o := o) hY hx
    refine ⟨z, o, L, hz, zle_refl hY, hc, fun _ _ _ _ => rfl, hd, hb.1, ?_⟩
    simp only [e_X9_back_24, e_X9_back_26, e_X9_back_28, e_X9_back_31, e_X9_back_32, e_X9_back_37, e_X9_back_39, e_X9_back_41n, e_X9_back_41, e_X9_back_44, e_X9_back_46, e_X9_back_49, e_X9_back_50, e_X9_back_53, e_X9_back_56, e_X9_back_57, e_X9_back_60, e_X9_back_61, e_X9_back_62, e_X9_back_68, e_X9_back_69, e_X9_back_72, e_X9_back_74, e_X9_back_79, e_X9_back_82, e_X9_back_85, e_X9_back_89, e_X9_back_90, cO_34 hY, cg_34_7 hY, cO_30 hY, cg_30_4 hY, cg_34_1 hY, cO_0 hY, cg_0_10 hY, cg_0_6 hY, rP_n, rS_n, xrd_rP, xrd_rS, xfit_rP, xfit_rS, xcat_rP, xcat_rS, nem, su_get, z1e0, z2e0, z3e0, z4e0, z5e0, z0e1, zme0, Nat.reduceEqDiff, not_true_eq_false, and_self, false_or, or_false, or_self,  bI_eq0, bI_eq1, i10, i20, i30, i00, ne_eq, Decidable.not_not, true_and, and_true, false_and, and_false, xrd_ref, xrd_null, xrd_rf, xid_int, xcat_int, xcat_ref, xcat_null, xcat_long, xcat_rf, xfit_int, xfit_0, xfit_1, xfit_ref, xfit_null, xfit_rf, not_false_eq_true, ↓reduceIte, z01_0, z01_1, bI_01, true_or, or_true, h2, c_X9_back_86 (cO_35 hY hx) k1]
  | succ f ih =>
    intro v r L z s o c a5 hv hz hc hT e28 e29 e30 hpm hb hcc hbb hdst hr hd
    have hY := hz.1
    have hP60 := hY.2.2.2.2.2.1.1
    have hS4 := hY.2.2.2.2.2.1.2
    have hLP := hb.1.2.1
    have h2 : ¬ (60 : Int32) ≤ nI v := by rw [← nI_60]; exact nI_ge (by omega) (by decide)
    have k1 := cd_aboardFrom (g := g) (A := A) (z := z) (s := s) (o := o) (k := nI v) hY hx (by rw [e28]; exact hpm 0 (by decide)) (by rw [e29]; exact hpm 1 (by decide)) (by rw [e30]; exact hpm 2 (by decide))
    -- is one of them of this place?
    by_cases ex : ∃ j p, j < 3 ∧ p < P ∧ c0 j = nI p ∧ o 66 p = nI v
    · obtain ⟨j, p, hj, hp, ej, ev⟩ := ex
      obtain ⟨b, b1, b2, b3, b4⟩ := hbb j p hj hp ej
      have bv : b = v := (nI_eq (by omega) (by omega)).mp (b3.symm.trans ev)
      subst bv
      have cj : c j = nI p := b4.mpr (Nat.le_refl _)
      have cp_ : (nI p).toNatClampNeg = p := nI_clamp (by omega)
      have np : ¬ nI p = -1 := nI_nm1 (by omega)
      -- only it
      have uniq : ∀ i q, i < 3 → q < P → c0 i = nI q → o 66 q = nI b → i = j := by
        intro i q hi hq ei eq
        obtain ⟨b', c1, c2, c3, c4⟩ := hbb i q hi hq ei
        refine hdst i j q p hi hj hq hp ei ej ?_
        rw [c2, b2, ← c3, eq]
      have test : ∀ i, i < 3 → ((¬ c0 i = -1 ∧ o 66 (c0 i).toNatClampNeg = nI b) ↔ i = j) := by
        intro i hi
        constructor
        · rintro ⟨w1, w2⟩
          obtain ⟨q, hq, eq⟩ := (hpm i hi).resolve_left w1
          rw [eq, nI_clamp (by omega)] at w2
          exact uniq i q hi hq eq w2
        · rintro rfl
          rw [ej, cp_]
          exact ⟨np, ev⟩
      have ab : abF s o x (nI b) = nI p := by
        unfold abF
        rw [e28, e29, e30]
        have t0 := test 0 (by decide)
        have t1 := test 1 (by decide)
        have t2 := test 2 (by decide)
        have : j = 0 ∨ j = 1 ∨ j = 2 := by omega
        rcases this with rfl | rfl | rfl
        · rw [if_pos (t0.mpr rfl)]; exact ej
        · rw [if_neg (fun w => absurd (t0.mp w) (by decide)), if_pos (t1.mpr rfl)]; exact ej
        · rw [if_neg (fun w => absurd (t0.mp w) (by decide)), if_neg (fun w => absurd (t1.mp w) (by decide)), if_pos (t2.mpr rfl)]; exact ej
      rw [ab, rP_r (by omega)] at k1
      -- the reference takes the same
      have hc2 : ∀ j, j < 3 → c j = -1 ∨ ∃ p b, p < P ∧ c j = nI p ∧ b < 60 ∧ s 16 p = nI b := by
        intro j hj
        rcases hb.2.1 j hj with w | ⟨p, b, w1, w2, w3, w4, w5⟩
        · exact Or.inl w
        · exact Or.inr ⟨p, b, w1, w2, w4, w5⟩
      have best : bkB s c 3 0 (-1) = nI j := by
        rcases bkB_min hP60 hc2 3 0 (-1) rfl (Or.inl ⟨rfl, fun j hj => by omega⟩) with ⟨w1, w2⟩ | ⟨k, w1, w2, w3, w4⟩
        · exact absurd ((w2 j hj).symm.trans cj).symm np
        · have m := w4 j hj (by rw [cj]; exact np)
          obtain ⟨q, b', q1, q2, q3, q4⟩ := (hc2 k w1).resolve_left w3
          rw [q2, cj, cp_, nI_clamp (by omega), q4, b2, nI_toInt (by omega), nI_toInt (by omega)] at m
          have ek : c0 k = nI q := by
            rcases hcc k w1 with w | w
            · exact absurd w w3
            · rw [← w]; exact q2
          obtain ⟨b'', c1, c2, c3, c4⟩ := hbb k q w1 q1 ek
          have ge := c4.mp q2
          have e1 : b' = b'' := (nI_eq (by omega) (by omega)).mp (q4.symm.trans c2)
          have : b' = b := by omega
          have kj := hdst k j q p w1 hj q1 hp ek ej (by rw [q4, b2, this])
          rw [w2, kj]
      have r1 : 1 ≤ r := Nat.le_trans (nC_pos hj (by rw [cj]; exact np)) hr
      have er : bkL x r c s = bkL x (r - 1) (cu c j (-1)) (bkQ s x p) := by
        have : r = (r - 1) + 1 := by omega
        rw [this, bkL, best, if_neg (nI_nm1 (show j < 2 ^ 31 by omega)), nI_clamp (show j < 2 ^ 31 by omega), cj, cp_, Nat.add_sub_cancel]
      rw [er]
      have nin : ¬ inL s L (nI p) := by
        rcases hb.2.1 j hj with w | ⟨p', b', w1, w2, w3, w4, w5⟩
        · exact absurd (w.symm.trans cj).symm np
        · rw [← cj, w2]; exact w3
      -- the class's two steps
      have k2 := cd_stayAt (g := g) (A := A) (z := z) (s := s) (o := o) (a := if s 20 x = 0 then 0 else 1) (t := nI T) hY hp
      have o9 : ∀ F j, F ≠ 9 → bkP s x p F j = su (su s 8 p (if s 20 x = 0 then 0 else 1)) 13 p (-1) F j := by
        intro F j h9
        unfold bkP
        by_cases w : s 20 x = 0
        · rw [if_pos w, if_pos w]
        · rw [if_neg w, if_neg w]
          simp only [su_get, h9, false_and, if_false]
      have eP : ∀ z, zok g A z P S → ∀ o, cp A z (su (su s 8 p (if s 20 x = 0 then 0 else 1)) 13 p (-1)) o = cp A z (bkP s x p) o := fun z hz o => (cp_9 hz (fun F j h => o9 F j h)).symm
      rw [eP z hY] at k2
      have l1 : lOK (bkP s x p) P L := lOK_o hb.1 (fun i => bkP_o s x p (by decide) (by decide) (by decide) i) (bkP_o s x p (by decide) (by decide) (by decide) 0)
      obtain ⟨z1, y1, y2, k3⟩ := cd_insert (g := g) (A := A) (z := z) (s := bkP s x p) (o := su o 64 p (nI T)) (b := b) hY l1 hc hp b1
      have eN : bkN s p = if b < L then b else L := by
        unfold bkN
        rw [b2, hb.1.1]
        by_cases w : b < L
        · rw [if_pos (nI_lt w (by omega)), if_pos w, nI_clamp (by omega)]
        · rw [if_neg (nI_nlt (by omega) (by omega)), if_neg w, nI_clamp (by omega)]
      have eQ : bkQ s x p = ptS (bkP s x p) (nI p) (if b < L then b else L) L := by
        unfold bkQ
        rw [eN, nL_eq hb.1 hP60]
      rw [← eQ] at k3
      have f64 : ∀ F j, F ≠ 64 → su o 64 p (nI T) F j = o F j := fun F j h => su_other _ _ h
      have z1o : zo g A z1 (mc (su o 64 p (nI T)) 3) P S := (ze_63' (zo_o hz (f64 _ _ (by decide)) (f64 _ _ (by decide)) (f64 _ _ (by decide)) (fun j => f64 _ _ (by decide)) (fun j => f64 _ _ (by decide)) (fun j => f64 _ _ (by decide))) y1 (fun F j h => mc_o _ 3 h j)).1
      have oQ : ∀ F j, F ≠ 8 → F ≠ 9 → F ≠ 13 → F ≠ 17 → F ≠ 18 → bkQ s x p F j = s F j := fun F j h1 h2 h3 h4 h5 => bkQ_o s x p h1 h2 h3 h4 h5 j
      have dQ : dI (bkQ s x p) (mc (su o 64 p (nI T)) 3) P := by
        have e8 : ∀ q, bkQ s x p 8 q = (if q = p then (if s 20 x = 0 then 0 else 1) else s 8 q) := fun q => by
          unfold bkQ; rw [ptS_o _ _ _ _ (by decide) (by decide)]; exact (bkP_8 s x p q).1
        have e13 : ∀ q, bkQ s x p 13 q = (if q = p then -1 else s 13 q) := fun q => by
          unfold bkQ; rw [ptS_o _ _ _ _ (by decide) (by decide)]; exact (bkP_8 s x p q).2.1
        have e9 : ∀ q, bkQ s x p 9 q = (if q = p ∧ ¬ s 20 x = 0 then s 1 0 else s 9 q) := fun q => by
          unfold bkQ; rw [ptS_o _ _ _ _ (by decide) (by decide)]; exact (bkP_8 s x p q).2.2
        refine ⟨fun q hq h8 => ?_, fun q hq h8 => ?_, fun q hq h8 => ?_⟩
        · rw [mc_o _ _ (by decide), e9]
          rw [e8] at h8
          by_cases w : q = p
          · subst w
            rw [if_pos rfl] at h8
            by_cases w2 : s 20 x = 0
            · rw [if_pos w2] at h8; exact absurd h8 (by decide)
            · rw [if_pos ⟨rfl, w2⟩, hT]; simp [su]
          · rw [if_neg w] at h8
            rw [if_neg (fun z => w z.1), su_get, if_neg (fun z => w z.2)]
            exact hd.1 q hq h8
        · rw [mc_o _ _ (by decide), f64 _ _ (by decide), oQ _ _ (by decide) (by decide) (by decide) (by decide) (by decide)]
          rw [e8] at h8
          by_cases w : q = p
          · subst w
            rw [if_pos rfl] at h8
            split at h8 <;> exact absurd h8 (by decide)
          · rw [if_neg w] at h8; exact hd.2.1 q hq h8
        · rw [e13]
          rw [e8] at h8
          by_cases w : q = p
          · rw [if_pos w]
          · rw [if_neg w] at h8 ⊢; exact hd.2.2 q hq h8
      have bstep := bOK_step (x := x) hP60 hb hj hp cj nin
      obtain ⟨z2, o2, L2, t1, t2, t3, t4, t5, t6, t7⟩ := ih (b + 1) (r - 1) (L + 1) z1 (bkQ s x p) (mc (su o 64 p (nI T)) 3) (cu c j (-1)) (some (.ref (A 30 p))) (by omega) z1o y2 (by rw [oQ _ _ (by decide) (by decide) (by decide) (by decide) (by decide)]; exact hT) (by rw [oQ _ _ (by decide) (by decide) (by decide) (by decide) (by decide)]; exact e28) (by rw [oQ _ _ (by decide) (by decide) (by decide) (by decide) (by decide)]; exact e29) (by rw [oQ _ _ (by decide) (by decide) (by decide) (by decide) (by decide)]; exact e30) hpm bstep (fun i hi => by
        unfold cu
        by_cases w : i = j
        · rw [if_pos w]; exact Or.inl rfl
        · rw [if_neg w]; exact hcc i hi) (fun i q hi hq ei => by
        obtain ⟨b', c1, c2, c3, c4⟩ := hbb i q hi hq ei
        refine ⟨b', c1, by rw [oQ _ _ (by decide) (by decide) (by decide) (by decide) (by decide)]; exact c2, by rw [mc_o _ _ (by decide), f64 _ _ (by decide)]; exact c3, ?_⟩
        unfold cu
        by_cases w : i = j
        · rw [if_pos w]
          subst w
          have : q = p := (nI_eq (by omega) (by omega)).mp (ei.symm.trans ej)
          subst this
          have : b' = b := (nI_eq (by omega) (by omega)).mp (c3.symm.trans b3)
          exact ⟨fun z => absurd z.symm (nI_nm1 (by omega)), fun z => by omega⟩
        · rw [if_neg w, c4]
          constructor
          · intro z
            by_cases w2 : b' = b
            · exact absurd (uniq i q hi hq ei (by rw [c3, w2])) w
            · omega
          · intro z; omega) (fun i i2 q q2 h1 h2 h3 h4 h5 h6 h7 => by
        rw [oQ _ _ (by decide) (by decide) (by decide) (by decide) (by decide), oQ _ _ (by decide) (by decide) (by decide) (by decide) (by decide)] at h7
        exact hdst i i2 q q2 h1 h2 h3 h4 h5 h6 h7) (by have := nC_cu hj (show ¬ c j = -1 by rw [cj]; exact np); omega) dQ
      refine ⟨z2, o2, L2, t1, zle_trans y1 t2, t3, fun F i h1 h2 => by rw [t4 F i h1 h2, mc_o _ _ h1, f64 _ _ h2], t5, t6, ?_⟩
      rw [e_X9_back_24 rfl]
      have hY1 := y1.1
      by_cases w : s 20 x = 0
      · rw [if_pos w] at k2
        simp only [e_X9_back_26, e_X9_back_28, e_X9_back_31, e_X9_back_32, e_X9_back_37, e_X9_back_39, e_X9_back_41n, e_X9_back_41, e_X9_back_44, e_X9_back_46, e_X9_back_49, e_X9_back_50, e_X9_back_53, e_X9_back_56, e_X9_back_57, e_X9_back_60, e_X9_back_61, e_X9_back_62, e_X9_back_68, e_X9_back_69, e_X9_back_72, e_X9_back_74, e_X9_back_79, e_X9_back_82, e_X9_back_85, e_X9_back_89, e_X9_back_90, cO_34 hY, cg_34_7 hY, cO_30 hY, cg_30_4 hY, cg_34_1 hY, cO_0 hY, cg_0_10 hY, cg_0_6 hY, rP_n, rS_n, xrd_rP, xrd_rS, xfit_rP, xfit_rS, xcat_rP, xcat_rS, nem, su_get, z1e0, z2e0, z3e0, z4e0, z5e0, z0e1, zme0, Nat.reduceEqDiff, not_true_eq_false, and_self, false_or, or_false, or_self,  bI_eq0, bI_eq1, i10, i20, i30, i00, ne_eq, Decidable.not_not, true_and, and_true, false_and, and_false, xrd_ref, xrd_null, xrd_rf, xid_int, xcat_int, xcat_ref, xcat_null, xcat_long, xcat_rf, xfit_int, xfit_0, xfit_1, xfit_ref, xfit_null, xfit_rf, not_false_eq_true, ↓reduceIte, z01_0, z01_1, bI_01, true_or, or_true, h2, c_X9_back_34 (cO_35 hY hx) k1, hx, hp, w, hT, c_X9_back_65 (cO_31 hY hp) k2, c_X9_back_76 _ (cO_19 hY) k3, nI_1]
        exact t7
      · rw [if_neg w] at k2
        simp only [e_X9_back_26, e_X9_back_28, e_X9_back_31, e_X9_back_32, e_X9_back_37, e_X9_back_39, e_X9_back_41n, e_X9_back_41, e_X9_back_44, e_X9_back_46, e_X9_back_49, e_X9_back_50, e_X9_back_53, e_X9_back_56, e_X9_back_57, e_X9_back_60, e_X9_back_61, e_X9_back_62, e_X9_back_68, e_X9_back_69, e_X9_back_72, e_X9_back_74, e_X9_back_79, e_X9_back_82, e_X9_back_85, e_X9_back_89, e_X9_back_90, cO_34 hY, cg_34_7 hY, cO_30 hY, cg_30_4 hY, cg_34_1 hY, cO_0 hY, cg_0_10 hY, cg_0_6 hY, rP_n, rS_n, xrd_rP, xrd_rS, xfit_rP, xfit_rS, xcat_rP, xcat_rS, nem, su_get, z1e0, z2e0, z3e0, z4e0, z5e0, z0e1, zme0, Nat.reduceEqDiff, not_true_eq_false, and_self, false_or, or_false, or_self,  bI_eq0, bI_eq1, i10, i20, i30, i00, ne_eq, Decidable.not_not, true_and, and_true, false_and, and_false, xrd_ref, xrd_null, xrd_rf, xid_int, xcat_int, xcat_ref, xcat_null, xcat_long, xcat_rf, xfit_int, xfit_0, xfit_1, xfit_ref, xfit_null, xfit_rf, not_false_eq_true, ↓reduceIte, z01_0, z01_1, bI_01, true_or, or_true, h2, c_X9_back_34 (cO_35 hY hx) k1, hx, hp, w, hT, c_X9_back_65 (cO_31 hY hp) k2, c_X9_back_76 _ (cO_19 hY) k3, nI_1]
        exact t7
    · -- none of this place
      have test : ∀ i, i < 3 → ¬ (¬ c0 i = -1 ∧ o 66 (c0 i).toNatClampNeg = nI v) := by
        intro i hi
        rintro ⟨w1, w2⟩
        obtain ⟨q, hq, eq⟩ := (hpm i hi).resolve_left w1
        rw [eq, nI_clamp (by omega)] at w2
        exact ex ⟨i, q, hi, hq, eq, w2⟩
      have ab : abF s o x (nI v) = -1 := by
        unfold abF
        rw [e28, e29, e30, if_neg (test 0 (by decide)), if_neg (test 1 (by decide)), if_neg (test 2 (by decide))]
      rw [ab, rP_n] at k1
      obtain ⟨z2, o2, L2, t1, t2, t3, t4, t5, t6, t7⟩ := ih (v + 1) r L z s o c (some .null) (by omega) hz hc hT e28 e29 e30 hpm hb hcc (fun i q hi hq ei => by
        obtain ⟨b', c1, c2, c3, c4⟩ := hbb i q hi hq ei
        refine ⟨b', c1, c2, c3, ?_⟩
        rw [c4]
        constructor
        · intro z
          by_cases w2 : b' = v
          · exact absurd ⟨i, q, hi, hq, ei, by rw [c3, w2]⟩ ex
          · omega
        · intro z; omega) hdst hr hd
      refine ⟨z2, o2, L2, t1, t2, t3, t4, t5, t6, ?_⟩
      rw [e_X9_back_24 rfl]
      simp only [e_X9_back_26, e_X9_back_28, e_X9_back_31, e_X9_back_32, e_X9_back_37, e_X9_back_39, e_X9_back_41n, e_X9_back_41, e_X9_back_44, e_X9_back_46, e_X9_back_49, e_X9_back_50, e_X9_back_53, e_X9_back_56, e_X9_back_57, e_X9_back_60, e_X9_back_61, e_X9_back_62, e_X9_back_68, e_X9_back_69, e_X9_back_72, e_X9_back_74, e_X9_back_79, e_X9_back_82, e_X9_back_85, e_X9_back_89, e_X9_back_90, cO_34 hY, cg_34_7 hY, cO_30 hY, cg_30_4 hY, cg_34_1 hY, cO_0 hY, cg_0_10 hY, cg_0_6 hY, rP_n, rS_n, xrd_rP, xrd_rS, xfit_rP, xfit_rS, xcat_rP, xcat_rS, nem, su_get, z1e0, z2e0, z3e0, z4e0, z5e0, z0e1, zme0, Nat.reduceEqDiff, not_true_eq_false, and_self, false_or, or_false, or_self,  bI_eq0, bI_eq1, i10, i20, i30, i00, ne_eq, Decidable.not_not, true_and, and_true, false_and, and_false, xrd_ref, xrd_null, xrd_rf, xid_int, xcat_int, xcat_ref, xcat_null, xcat_long, xcat_rf, xfit_int, xfit_0, xfit_1, xfit_ref, xfit_null, xfit_rf, not_false_eq_true, ↓reduceIte, z01_0, z01_1, bI_01, true_or, or_true, h2, c_X9_back_34 (cO_35 hY hx) k1, nI_1]
      exact t7
end BK
