/-! ===== the class's back, whole, and what it keeps ===== -/
theorem bkL_keep {x P : Nat} (hP : P ≤ 60) : ∀ (f L : Nat) (c : Nat → Int32) (s : mS), bOK s c P L → nC c ≤ f → ∃ L', lOK (bkL x f c s).1 P L' ∧ (∀ F j, F ≠ 8 → F ≠ 9 → F ≠ 13 → F ≠ 17 → F ≠ 18 → (bkL x f c s).1 F j = s F j) ∧ (∀ j p, j < 3 → p < P → c j = nI p → ((bkL x f c s).1 8 p = 0 ∨ (bkL x f c s).1 8 p = 1) ∧ (bkL x f c s).1 13 p = -1) ∧ (∀ q, q < P → (∀ j, j < 3 → ¬ c j = nI q) → (bkL x f c s).1 8 q = s 8 q ∧ (bkL x f c s).1 13 q = s 13 q) ∧ (∀ v, inL (bkL x f c s).1 L' v → inL s L v ∨ ∃ j, j < 3 ∧ c j = v) := by
  intro f
  induction f with
  | zero =>
    intro L c s hb hn
    refine ⟨L, hb.1, fun _ _ _ _ _ _ _ => rfl, fun j p hj hp e => ?_, fun _ _ _ => ⟨rfl, rfl⟩, fun v hv => Or.inl hv⟩
    have := nC_pos hj (show ¬ c j = -1 by rw [e]; exact nI_nm1 (by omega))
    omega
  | succ f ih =>
    intro L c s hb hn
    have hc2 : ∀ j, j < 3 → c j = -1 ∨ ∃ p b, p < P ∧ c j = nI p ∧ b < 60 ∧ s 16 p = nI b := by
      intro j hj
      rcases hb.2.1 j hj with w | ⟨p, b, w1, w2, w3, w4, w5⟩
      · exact Or.inl w
      · exact Or.inr ⟨p, b, w1, w2, w4, w5⟩
    rcases bkB_min hP hc2 3 0 (-1) rfl (Or.inl ⟨rfl, fun j hj => by omega⟩) with ⟨w1, w2⟩ | ⟨k, w1, w2, w3, w4⟩
    · rw [bkL_none w1]
      refine ⟨L, hb.1, fun _ _ _ _ _ _ _ => rfl, fun j p hj hp e => ?_, fun _ _ _ => ⟨rfl, rfl⟩, fun v hv => Or.inl hv⟩
      rw [w2 j hj] at e
      exact absurd e.symm (nI_nm1 (by omega))
    · obtain ⟨p, b, q1, q2, q3, q4, q5⟩ := (hb.2.1 k w1).resolve_left w3
      have cp_ : (nI p).toNatClampNeg = p := nI_clamp (by omega)
      have er : bkL x (f + 1) c s = bkL x f (cu c k (-1)) (bkQ s x p) := by
        rw [bkL, w2, if_neg (nI_nm1 (show k < 2 ^ 31 by omega)), nI_clamp (show k < 2 ^ 31 by omega), q2, cp_]
      rw [er]
      have hb' := bOK_step (x := x) hP hb w1 q1 q2 q3
      obtain ⟨L', r1, r2, r3, r4, r5⟩ := ih (L + 1) (cu c k (-1)) (bkQ s x p) hb' (by have := nC_cu w1 w3; omega)
      have e8 : ∀ q, bkQ s x p 8 q = (if q = p then (if s 20 x = 0 then 0 else 1) else s 8 q) := fun q => by
        unfold bkQ; rw [ptS_o _ _ _ _ (by decide) (by decide)]; exact (bkP_8 s x p q).1
      have e13 : ∀ q, bkQ s x p 13 q = (if q = p then -1 else s 13 q) := fun q => by
        unfold bkQ; rw [ptS_o _ _ _ _ (by decide) (by decide)]; exact (bkP_8 s x p q).2.1
      have out : ∀ q, q < P → (∀ j, j < 3 → ¬ cu c k (-1) j = nI q) ↔ (q < P → (∀ j, j < 3 → j ≠ k → ¬ c j = nI q)) := by
        intro q
        constructor
        · intro h hq j hj hne
          have := h hq j hj
          unfold cu at this
          rw [if_neg hne] at this
          exact this
        · intro h hq j hj
          unfold cu
          by_cases e : j = k
          · rw [if_pos e]; exact fun z => absurd z.symm (nI_nm1 (by omega))
          · rw [if_neg e]; exact h hq j hj e
      refine ⟨L', r1, fun F j h1 h2 h3 h4 h5 => (r2 F j h1 h2 h3 h4 h5).trans (bkQ_o s x p h1 h2 h3 h4 h5 j), fun j q hj hq e => ?_, fun q hq hn => ?_, fun v hv => ?_⟩
      · by_cases w : j = k
        · subst w
          have : q = p := (nI_eq (by omega) (by omega)).mp (e.symm.trans q2)
          subst this
          have no : ∀ i, i < 3 → ¬ cu c j (-1) i = nI q := (out q).mpr (fun _ i hi hne z => hne (hb.2.2 i j hi w1 (by rw [z]; exact nI_nm1 (by omega)) (by rw [z, q2]))) hq
          obtain ⟨y1, y2⟩ := r4 q hq no
          rw [y1, y2, e8, e13, if_pos rfl, if_pos rfl]
          refine ⟨?_, rfl⟩
          split
          · exact Or.inl rfl
          · exact Or.inr rfl
        · refine r3 j q hj hq ?_
          unfold cu
          rw [if_neg w]; exact e
      · have np : q ≠ p := fun z => hn k w1 (by rw [z]; exact q2)
        have no : ∀ i, i < 3 → ¬ cu c k (-1) i = nI q := (out q).mpr (fun _ i hi _ => hn i hi) hq
        obtain ⟨y1, y2⟩ := r4 q hq no
        rw [y1, y2, e8, e13, if_neg np, if_neg np]
        exact ⟨rfl, rfl⟩
      · rcases r5 v hv with z | ⟨j, hj, z⟩
        · unfold bkQ at z
          rw [nL_eq hb.1 hP] at z
          have aL : bkN s p ≤ L := by
            unfold bkN
            rw [q5, hb.1.1]
            have := hb.1.2.1
            by_cases w : b < L
            · rw [if_pos (nI_lt w (by omega)), nI_clamp (by omega)]; omega
            · rw [if_neg (nI_nlt (by omega) (by omega)), nI_clamp (by omega)]; exact Nat.le_refl _
          rcases inL_pt aL z with y | y
          · exact Or.inr ⟨k, w1, by rw [y]; exact q2⟩
          · exact Or.inl (inL_o y (fun i => (bkP_o s x p (by decide) (by decide) (by decide) i).symm))
        · unfold cu at z
          by_cases w : j = k
          · rw [if_pos w] at z
            -- none stands for none
            rw [← z] at hv
            obtain ⟨i, hi, ei⟩ := hv
            obtain ⟨q, hq, eq⟩ := r1.2.2.1 i hi
            rw [eq] at ei
            exact absurd ei (nI_nm1 (by omega))
          · rw [if_neg w] at z
            exact Or.inr ⟨j, hj, z⟩
section BW
variable {g : Nat × Nat × Nat} {A : Nat → Nat → Nat} {z : zT} {s o : mS} {P S : Nat}
theorem bkC_v (s : mS) (x : Nat) : bkC s x 0 = s 28 x ∧ bkC s x 1 = s 29 x ∧ bkC s x 2 = s 30 x := by
  simp [bkC, cu]
theorem back_bOK {x L T : Nat} (hP : P ≤ 60) (hx : x < S) (hco : core s o P S L T) (hT : s 1 0 = nI T) (hg : g_back s x) : bOK s (bkC s x) P L ∧ (∀ j, j < 3 → pmP P (bkC s x j)) ∧ (∀ j p, j < 3 → p < P → bkC s x j = nI p → ∃ b, b < 60 ∧ s 16 p = nI b ∧ o 66 p = nI b) ∧ (∀ i j p q, i < 3 → j < 3 → p < P → q < P → bkC s x i = nI p → bkC s x j = nI q → s 16 p = s 16 q → i = j) ∧ (∀ j p, j < 3 → p < P → bkC s x j = nI p → s 8 p = 2 ∧ s 13 p = nI x) := by
  obtain ⟨hl, hsh, hpl, hgw, hdI, hnow⟩ := hco
  obtain ⟨v0, v1, v2⟩ := bkC_v s x
  obtain ⟨_, r28, r29, r30, dd⟩ := (hsh x hx).1 hg.1
  obtain ⟨p28, p29, p30⟩ := (hsh x hx).2.2
  have j3 : ∀ j, j < 3 → j = 0 ∨ j = 1 ∨ j = 2 := fun j hj => by omega
  have pmj : ∀ j, j < 3 → pmP P (bkC s x j) := by
    intro j hj
    rcases j3 j hj with rfl | rfl | rfl
    · rw [v0]; exact p28
    · rw [v1]; exact p29
    · rw [v2]; exact p30
  have rlj : ∀ j, j < 3 → rl s P x (bkC s x j) := by
    intro j hj
    rcases j3 j hj with rfl | rfl | rfl
    · rw [v0]; exact r28
    · rw [v1]; exact r29
    · rw [v2]; exact r30
  have ro : ∀ j p, j < 3 → bkC s x j = nI p → (s 28 x = nI p ∨ s 29 x = nI p ∨ s 30 x = nI p) := by
    intro j p hj e
    rcases j3 j hj with rfl | rfl | rfl
    · exact Or.inl (v0.symm.trans e)
    · exact Or.inr (Or.inl (v1.symm.trans e))
    · exact Or.inr (Or.inr (v2.symm.trans e))
  have ab : ∀ j p, j < 3 → p < P → bkC s x j = nI p → s 8 p = 2 ∧ s 13 p = nI x := by
    intro j p hj hp e
    rcases rlj j hj with w | ⟨w, w1, w2, w3, w4⟩
    · rw [e] at w; exact absurd w (nI_nm1 (by omega))
    · have : w = p := (nI_eq (by omega) (by omega)).mp (w2.symm.trans e)
      subst this; exact ⟨w3, w4⟩
  have bg : ∀ j p, j < 3 → p < P → bkC s x j = nI p → ∃ b, b < 60 ∧ s 16 p = nI b ∧ o 66 p = nI b := fun j p hj hp e => (hnow x hx hg.1 (hg.2.trans hT) p hp (ro j p hj e)).1
  have dj : ∀ i j, i < 3 → j < 3 → ¬ bkC s x i = -1 → bkC s x i = bkC s x j → i = j := by
    intro i j hi hj hn e
    obtain ⟨d1, d2, d3⟩ := dd
    rcases j3 i hi with rfl | rfl | rfl <;> rcases j3 j hj with rfl | rfl | rfl
    · rfl
    · rw [v0] at hn; rw [v0, v1] at e; exact absurd e (d1.resolve_left hn)
    · rw [v0] at hn; rw [v0, v2] at e; exact absurd e (d2.resolve_left hn)
    · rw [v1] at hn; rw [v1, v0] at e; exact absurd e.symm (d1.resolve_left (by rw [← e]; exact hn))
    · rfl
    · rw [v1] at hn; rw [v1, v2] at e; exact absurd e (d3.resolve_left hn)
    · rw [v2] at hn; rw [v2, v0] at e; exact absurd e.symm (d2.resolve_left (by rw [← e]; exact hn))
    · rw [v2] at hn; rw [v2, v1] at e; exact absurd e.symm (d3.resolve_left (by rw [← e]; exact hn))
    · rfl
  refine ⟨⟨hl, fun j hj => ?_, dj⟩, pmj, bg, fun i j p q hi hj hp hq ei ej e16 => ?_, ab⟩
  · rcases pmj j hj with w | ⟨p, hp, w⟩
    · exact Or.inl w
    · obtain ⟨b, b1, b2, b3⟩ := bg j p hj hp w
      exact Or.inr ⟨p, b, hp, w, fun hi => hpl.2 p hp hi (ab j p hj hp w).1, b1, b2⟩
  · have e := (hnow x hx hg.1 (hg.2.trans hT) p hp (ro i p hi ei)).2 x hx hg.1 (hg.2.trans hT) q hq (ro j q hj ej) e16
    subst e
    exact dj i j hi hj (by rw [ei]; exact nI_nm1 (by omega)) (ei.trans ej.symm)
theorem cd_back0 {x : Int32} {a2 a3 a4 a5 : Option Value} (hY : zok g A z P S) (hx : ¬ (0 ≤ x ∧ x < s 19 0)) : Ev g 66 0 [some (.ref (A 0 0)), some (.int x), a2, a3, a4, a5] [] (cp A z s o) (.inr 1, bmp (cp A z s o)) := by
  have k1 := cd_snX (g := g) (s := s) (o := o) hY hx
  simp only [e_X9_back_0, e_X9_back_1, e_X9_back_5, e_X9_back_6, e_X9_back_7, e_X9_back_10, e_X9_back_11, e_X9_back_12, e_X9_back_16, e_X9_back_19, e_X9_back_20, e_X9_back_21, e_X9_back_22, cO_34 hY, cg_34_7 hY, cO_30 hY, cg_30_4 hY, cg_34_1 hY, cO_0 hY, cg_0_10 hY, cg_0_6 hY, rP_n, rS_n, xrd_rP, xrd_rS, xfit_rP, xfit_rS, xcat_rP, xcat_rS, nem, su_get, z1e0, z2e0, z3e0, z4e0, z5e0, z0e1, zme0, Nat.reduceEqDiff, not_true_eq_false, and_self, false_or, or_false, or_self,  bI_eq0, bI_eq1, i10, i20, i30, i00, ne_eq, Decidable.not_not, true_and, and_true, false_and, and_false, xrd_ref, xrd_null, xrd_rf, xid_int, xcat_int, xcat_ref, xcat_null, xcat_long, xcat_rf, xfit_int, xfit_0, xfit_1, xfit_ref, xfit_null, xfit_rf, not_false_eq_true, ↓reduceIte, z01_0, z01_1, bI_01, true_or, or_true, t_X9_back_2 (cO_0 hY) k1, bmp]
theorem cd_back1 {x : Nat} {a2 a3 a4 a5 : Option Value} (hz : zo g A z o P S) (hS : s 19 0 = nI S) (hx : x < S) (hg : ¬ g_back s x) : Ev g 66 0 [some (.ref (A 0 0)), some (.int (nI x)), a2, a3, a4, a5] [] (cp A z s o) (.inl (some (.int 0)), cp A z s o) := by
  have hY := hz.1
  have k1 := cd_sn (g := g) (s := s) (o := o) hY hS hz.2.1.2 hx
  have k2 := cd_went (g := g) (A := A) (z := z) (s := s) (o := o) hY hx
  have e : bI (s 26 x = 1 ∧ s 27 x = s 1 0) = 0 := by
    unfold bI; exact if_neg hg
  rw [e] at k2
  simp only [e_X9_back_0, e_X9_back_1, e_X9_back_5, e_X9_back_6, e_X9_back_7, e_X9_back_10, e_X9_back_11, e_X9_back_12, e_X9_back_16, e_X9_back_19, e_X9_back_20, e_X9_back_21, e_X9_back_22, cO_34 hY, cg_34_7 hY, cO_30 hY, cg_30_4 hY, cg_34_1 hY, cO_0 hY, cg_0_10 hY, cg_0_6 hY, rP_n, rS_n, xrd_rP, xrd_rS, xfit_rP, xfit_rS, xcat_rP, xcat_rS, nem, su_get, z1e0, z2e0, z3e0, z4e0, z5e0, z0e1, zme0, Nat.reduceEqDiff, not_true_eq_false, and_self, false_or, or_false, or_self,  bI_eq0, bI_eq1, i10, i20, i30, i00, ne_eq, Decidable.not_not, true_and, and_true, false_and, and_false, xrd_ref, xrd_null, xrd_rf, xid_int, xcat_int, xcat_ref, xcat_null, xcat_long, xcat_rf, xfit_int, xfit_0, xfit_1, xfit_ref, xfit_null, xfit_rf, not_false_eq_true, ↓reduceIte, z01_0, z01_1, bI_01, true_or, or_true, c_X9_back_2 (cO_0 hY) k1, c_X9_back_13 _ (cO_0 hY) k2, hx]
theorem cd_back {x L T : Nat} {a2 a3 a4 a5 : Option Value} (hz : zo g A z o P S) (hS : s 19 0 = nI S) (hT : s 1 0 = nI T) (hx : x < S) (hco : core s o P S L T) (hc : L ≤ z.1.2.2 3) (hg : g_back s x) : ∃ z' o' L', zo g A z' o' P S ∧ zle g A z z' P S ∧ L' ≤ z'.1.2.2 3 ∧ (∀ F j, F ≠ 63 → F ≠ 64 → o' F j = o F j) ∧ core (f_back s x).1 o' P S L' T ∧ Ev g 66 0 [some (.ref (A 0 0)), some (.int (nI x)), a2, a3, a4, a5] [] (cp A z s o) (.inl (some (.int 1)), cp A z' (f_back s x).1 o') := by
  have hY := hz.1
  have hP60 := hY.2.2.2.2.2.1.1
  have hS4 := hY.2.2.2.2.2.1.2
  obtain ⟨b1, b2, b3, b4, b5⟩ := back_bOK hP60 hx hco hT hg
  obtain ⟨hl, hsh, hpl, hgw, hdI, hnow⟩ := hco
  have u : ∀ F j, F ≠ 0 → su s 0 0 0 F j = s F j := fun F j h => su_other _ _ h
  have u0 : cp A z (su s 0 0 0) o = cp A z s o := cp_x hY (fun F j h0 _ _ _ _ => u F j h0)
  have ec : bkC (su s 0 0 0) x = bkC s x := by
    unfold bkC
    rw [u _ _ (by decide), u _ _ (by decide), u _ _ (by decide)]
  obtain ⟨v0, v1, v2⟩ := bkC_v s x
  have b1' : bOK (su s 0 0 0) (bkC s x) P L := by
    obtain ⟨q1, q2, q3⟩ := b1
    refine ⟨lOK_o q1 (fun j => u _ _ (by decide)) (u _ _ (by decide)), fun j hj => ?_, q3⟩
    rcases q2 j hj with w | ⟨p, b, w1, w2, w3, w4, w5⟩
    · exact Or.inl w
    · exact Or.inr ⟨p, b, w1, w2, fun r => w3 (inL_o r (fun i => (u _ _ (by decide)).symm)), w4, by rw [u _ _ (by decide)]; exact w5⟩
  have n3 : nC (bkC s x) ≤ 3 := by
    unfold nC
    split <;> split <;> split <;> omega
  have d0 : dI (su s 0 0 0) o P := dI_su hdI (by decide)
  obtain ⟨z', o', L', t1, t2, t3, t4, t5, t6, t7⟩ := lp_cback (g := g) (A := A) (P := P) (S := S) (x := x) (T := T) (c0 := bkC s x) hx 60 0 3 L z (su s 0 0 0) o (bkC s x) a5 (by omega) hz hc (by rw [u _ _ (by decide)]; exact hT) (by rw [u _ _ (by decide), v0]) (by rw [u _ _ (by decide), v1]) (by rw [u _ _ (by decide), v2]) b2 b1' (fun j _ => Or.inr rfl) (fun j p hj hp e => by
    obtain ⟨b, w1, w2, w3⟩ := b3 j p hj hp e
    exact ⟨b, w1, by rw [u _ _ (by decide)]; exact w2, w3, fun _ => Nat.zero_le _, fun _ => e⟩) (fun i j p q h1 h2 h3 h4 h5 h6 h7 => b4 i j p q h1 h2 h3 h4 h5 h6 (by rw [u _ _ (by decide), u _ _ (by decide)] at h7; exact h7)) n3 d0
  have ef : (f_back s x).1 = bkA (bkL x 3 (bkC s x) (su s 0 0 0)).1 x := by
    unfold f_back
    rw [ec, bkL_bkA]
  obtain ⟨L2, k1, k2, k3, k4, k5⟩ := bkL_keep (x := x) hP60 3 L (bkC s x) (su s 0 0 0) b1' n3
  have eL : L2 = L' := by rw [← nL_eq k1 hP60, ← nL_eq t6 hP60]
  subst eL
  refine ⟨z', o', L2, t1, t2, t3, t4, ?_, ?_⟩
  · rw [ef]
    generalize hsB : (bkL x 3 (bkC s x) (su s 0 0 0)).1 = sB at *
    have oA : ∀ F j, F ≠ 26 → F ≠ 28 → F ≠ 29 → F ≠ 30 → bkA sB x F j = sB F j := fun F j h1 h2 h3 h4 => by
      unfold bkA
      rw [su_other _ _ h4, su_other _ _ h3, su_other _ _ h2, su_other _ _ h1]
    have oy : ∀ F j, j ≠ x → bkA sB x F j = sB F j := fun F j hj => by
      have e : ∀ (s : mS) G v, su s G x v F j = s F j := fun s G v => by rw [su_get, if_neg (fun q => hj q.2)]
      unfold bkA
      rw [e, e, e, e]
    have oB : ∀ F j, F ≠ 0 → F ≠ 8 → F ≠ 9 → F ≠ 13 → F ≠ 17 → F ≠ 18 → sB F j = s F j := fun F j h0 h1 h2 h3 h4 h5 => by rw [k2 F j h1 h2 h3 h4 h5, u _ _ h0]
    have x26 : bkA sB x 26 x = 3 := by simp [bkA, su_get]
    have x28 : bkA sB x 28 x = -1 ∧ bkA sB x 29 x = -1 ∧ bkA sB x 30 x = -1 := by simp [bkA, su_get]
    have other : ∀ y, y < S → y ≠ x → ∀ q, q < P → s 8 q = 2 → s 13 q = nI y → bkA sB x 8 q = 2 ∧ bkA sB x 13 q = nI y := by
      intro y hy hne q hq w1 w2
      have no : ∀ j, j < 3 → ¬ bkC s x j = nI q := by
        intro j hj e
        have := (b5 j q hj hq e).2
        rw [w2] at this
        exact hne ((nI_eq (by omega) (by omega)).mp this)
      obtain ⟨y1, y2⟩ := k4 q hq no
      rw [oA _ _ (by decide) (by decide) (by decide) (by decide), oA _ _ (by decide) (by decide) (by decide) (by decide), y1, y2, u _ _ (by decide), u _ _ (by decide)]
      exact ⟨w1, w2⟩
    refine ⟨lOK_o k1 (fun j => oA _ _ (by decide) (by decide) (by decide) (by decide)) (oA _ _ (by decide) (by decide) (by decide) (by decide)), fun y hy => ?_, ⟨fun p hp => ?_, fun p hp hi => ?_⟩, fun y hy h26 => ?_, ?_, fun y hy h26 h27 p hp hr => ?_⟩
    · by_cases e : y = x
      · subst e
        refine ⟨fun w => ?_, fun w => ?_, ?_⟩
        · rw [x26] at w; exact absurd w (by decide)
        · rw [x26] at w; exact absurd w (by decide)
        · rw [x28.1, x28.2.1, x28.2.2]; exact ⟨Or.inl rfl, Or.inl rfl, Or.inl rfl⟩
      · exact shI_o (hsh y hy) (fun F h1 h2 => by rw [oy _ _ e, oB _ _ (by omega) (by omega) (by omega) (by omega) (by omega) (by omega)]) (fun q hq w1 w2 => other y hy e q hq w1 w2)
    · rw [oA _ _ (by decide) (by decide) (by decide) (by decide), oA _ _ (by decide) (by decide) (by decide) (by decide)]
      by_cases ex : ∃ j, j < 3 ∧ bkC s x j = nI p
      · obtain ⟨j, hj, e⟩ := ex
        obtain ⟨w1, w2⟩ := k3 j p hj hp e
        refine ⟨fun w => ?_, fun _ => w2⟩
        rcases w1 with w1 | w1 <;> rw [w1] at w <;> exact absurd w (by decide)
      · obtain ⟨y1, y2⟩ := k4 p hp (fun j hj e => ex ⟨j, hj, e⟩)
        rw [y1, y2, u _ _ (by decide), u _ _ (by decide)]
        exact hpl.1 p hp
    · rw [oA _ _ (by decide) (by decide) (by decide) (by decide)]
      by_cases ex : ∃ j, j < 3 ∧ bkC s x j = nI p
      · obtain ⟨j, hj, e⟩ := ex
        rcases (k3 j p hj hp e).1 with w | w <;> rw [w] <;> decide
      · obtain ⟨y1, y2⟩ := k4 p hp (fun j hj e => ex ⟨j, hj, e⟩)
        rw [y1, u _ _ (by decide)]
        rcases k5 (nI p) (inL_o hi (fun j => (oA _ _ (by decide) (by decide) (by decide) (by decide)).symm)) with w | ⟨j, hj, w⟩
        · exact hpl.2 p hp (inL_o w (fun j => (u _ _ (by decide)).symm))
        · exact absurd ⟨j, hj, w⟩ ex
    · have e : y ≠ x := by
        intro e
        subst e
        rw [x26] at h26; exact absurd h26 (by decide)
      rw [oy _ _ e, oB _ _ (by decide) (by decide) (by decide) (by decide) (by decide) (by decide)] at h26 ⊢
      exact hgw y hy h26
    · unfold bkA
      exact dI_su (dI_su (dI_su (dI_su t5 (by decide)) (by decide)) (by decide)) (by decide)
    · have e : y ≠ x := by
        intro e
        subst e
        rw [x26] at h26; exact absurd h26 (by decide)
      rw [oy _ _ e, oB _ _ (by decide) (by decide) (by decide) (by decide) (by decide) (by decide)] at h26 h27
      rw [oy 28 _ e, oy 29 _ e, oy 30 _ e, oB 28 _ (by decide) (by decide) (by decide) (by decide) (by decide) (by decide), oB 29 _ (by decide) (by decide) (by decide) (by decide) (by decide) (by decide), oB 30 _ (by decide) (by decide) (by decide) (by decide) (by decide) (by decide)] at hr
      have e16 : ∀ j, bkA sB x 16 j = s 16 j := fun j => by rw [oA _ _ (by decide) (by decide) (by decide) (by decide), oB _ _ (by decide) (by decide) (by decide) (by decide) (by decide) (by decide)]
      have m := hnow y hy h26 h27 p hp hr
      rw [e16]
      refine ⟨?_, fun y2 hy2 g26 g27 q hq hr2 he => ?_⟩
      · rw [t4 _ _ (by decide) (by decide)]; exact m.1
      · have e2 : y2 ≠ x := by
          intro e2
          subst e2
          rw [x26] at g26; exact absurd g26 (by decide)
        rw [oy _ _ e2, oB _ _ (by decide) (by decide) (by decide) (by decide) (by decide) (by decide)] at g26 g27
        rw [oy 28 _ e2, oy 29 _ e2, oy 30 _ e2, oB 28 _ (by decide) (by decide) (by decide) (by decide) (by decide) (by decide), oB 29 _ (by decide) (by decide) (by decide) (by decide) (by decide) (by decide), oB 30 _ (by decide) (by decide) (by decide) (by decide) (by decide) (by decide)] at hr2
        rw [e16] at he; exact m.2 y2 hy2 g26 g27 q hq hr2 he
  · rw [ef]
    have k1' := cd_sn (g := g) (s := s) (o := o) hY hS hz.2.1.2 hx
    have k2' := cd_went (g := g) (A := A) (z := z) (s := s) (o := o) hY hx
    have e : bI (s 26 x = 1 ∧ s 27 x = s 1 0) = 1 := by
      unfold bI; exact if_pos hg
    rw [e] at k2'
    rw [u0, nI_0] at t7
    simp only [e_X9_back_0, e_X9_back_1, e_X9_back_5, e_X9_back_6, e_X9_back_7, e_X9_back_10, e_X9_back_11, e_X9_back_12, e_X9_back_16, e_X9_back_19, e_X9_back_20, e_X9_back_21, e_X9_back_22, cO_34 hY, cg_34_7 hY, cO_30 hY, cg_30_4 hY, cg_34_1 hY, cO_0 hY, cg_0_10 hY, cg_0_6 hY, rP_n, rS_n, xrd_rP, xrd_rS, xfit_rP, xfit_rS, xcat_rP, xcat_rS, nem, su_get, z1e0, z2e0, z3e0, z4e0, z5e0, z0e1, zme0, Nat.reduceEqDiff, not_true_eq_false, and_self, false_or, or_false, or_self,  bI_eq0, bI_eq1, i10, i20, i30, i00, ne_eq, Decidable.not_not, true_and, and_true, false_and, and_false, xrd_ref, xrd_null, xrd_rf, xid_int, xcat_int, xcat_ref, xcat_null, xcat_long, xcat_rf, xfit_int, xfit_0, xfit_1, xfit_ref, xfit_null, xfit_rf, not_false_eq_true, ↓reduceIte, z01_0, z01_1, bI_01, true_or, or_true, c_X9_back_2 (cO_0 hY) k1', c_X9_back_13 _ (cO_0 hY) k2', hx]
    exact t7
end BW
