/-! ===== the class's undo, whole ===== -/
section UN
variable {g : Nat × Nat × Nat} {A : Nat → Nat → Nat} {z : zT} {s s' o : mS} {P S : Nat}
/-- equal where it counts, equal heaps -/
theorem cp_rng {n : Nat} (hY : zok g A z P S) (hn : n < 2 ^ 31) (h18 : s 18 0 = nI n) (h18' : s' 18 0 = nI n) (h17 : ∀ j, j < n → s' 17 j = s 17 j) (h : ∀ F j, ownS F j ≠ (99, 0) → F ≠ 17 → F ≠ 18 → (30 ≤ (ownS F j).1 → (ownS F j).1 ≤ 33 → (ownS F j).2 < P) → (34 ≤ (ownS F j).1 → (ownS F j).2 < S) → s' F j = s F j) : cp A z s' o = cp A z s o := by
  refine cp_ext rfl rfl (fun a => ?_)
  simp only [cp]
  cases hr : z.1.1 a with
  | none => rfl
  | some r =>
    have hl := (hY.2.1 a r.1 r.2 hr).1
    simp only
    have k37 := lv37 hl
    by_cases e4 : r.1 = 4
    · have i0 := lv0 hl (by omega)
      rw [e4, i0]
      simp only [ccell, lob, sz, h18, h18']
    · by_cases e10 : r.1 = 10
      · have i0 := lv0 hl (by omega)
        rw [e10, i0]
        simp only [ccell, lrw, sz, nu, lk, h18, h18', nI_clamp hn]
        congr 4
        funext j
        simp only [lC]
        by_cases c : j < n
        · rw [if_pos c, if_pos c, h17 j c]
        · rw [if_neg c, if_neg c]
      · have g4 : gp r.1 ≠ 4 := by
          intro e
          unfold gp at e
          split at e <;> omega
        have g99 : gp r.1 < 37 := by
          unfold gp
          split <;> omega
        congr 1
        refine ccell_congr k37 (lv0 hl) (fun F j e => ?_) (fun _ _ _ => rfl)
        refine h F j ?_ ?_ ?_ ?_ ?_
        · rw [e]; intro q; have := (Prod.mk.inj q).1; omega
        · rintro rfl; exact g4 (Prod.mk.inj e).1.symm
        · rintro rfl; exact g4 (Prod.mk.inj e).1.symm
        · rw [e]; intro q1 q2
          simp only at q1 q2 ⊢
          rcases hl with w | w | w
          · unfold gp at q1; split at q1 <;> omega
          · exact w.2.2
          · unfold gp at q2; split at q2 <;> omega
        · rw [e]; intro q1
          simp only at q1 ⊢
          rcases hl with w | w | w
          · unfold gp at q1; split at q1 <;> omega
          · unfold gp at q1; split at q1 <;> omega
          · exact w.2.2
def ud (s' o' o : mS) (q : Nat) : Prop := (s' 8 q = o 70 q ∧ s' 10 q = o 73 q ∧ s' 15 q = o 74 q ∧ s' 11 q = o 75 q ∧ s' 12 q = o 76 q ∧ s' 13 q = o 78 q) ∧ (o' 64 q = o 71 q ∧ o' 65 q = o 72 q ∧ o' 66 q = o 77 q)
def ut (s' o : mS) (x : Nat) : Prop := (s' 26 x = o 80 x ∧ s' 27 x = o 81 x ∧ s' 28 x = o 82 x ∧ s' 29 x = o 83 x) ∧ (s' 30 x = o 84 x ∧ s' 31 x = o 85 x ∧ s' 32 x = o 86 x ∧ s' 33 x = o 87 x)
theorem udS_o (s o : mS) (p : Nat) {F j : Nat} (h : (F < 8 ∨ 15 < F) ∨ j ≠ p) : udS s o p F j = s F j := by
  have a : ∀ (s : mS) k v, 8 ≤ k → k ≤ 15 → su s k p v F j = s F j := fun s k v h1 h2 => by rw [su_get, if_neg (by omega)]
  unfold udS
  rw [a _ _ _ (by decide) (by decide), a _ _ _ (by decide) (by decide), a _ _ _ (by decide) (by decide), a _ _ _ (by decide) (by decide), a _ _ _ (by decide) (by decide), a _ _ _ (by decide) (by decide)]
theorem udO_o (o : mS) (p : Nat) {F j : Nat} (h : (F < 64 ∨ 66 < F) ∨ j ≠ p) : udO o p F j = o F j := by
  have a : ∀ (s : mS) k v, 64 ≤ k → k ≤ 66 → su s k p v F j = s F j := fun s k v h1 h2 => by rw [su_get, if_neg (by omega)]
  unfold udO
  rw [a _ _ _ (by decide) (by decide), a _ _ _ (by decide) (by decide), a _ _ _ (by decide) (by decide)]
theorem udS_ud (s o : mS) (p : Nat) : ud (udS s o p) (udO o p) o p := by
  simp [ud, udS, udO, su_get]
theorem utS_o (s o : mS) (x : Nat) {F j : Nat} (h : (F < 26 ∨ 33 < F) ∨ j ≠ x) : utS s o x F j = s F j := by
  have a : ∀ (s : mS) k v, 26 ≤ k → k ≤ 33 → su s k x v F j = s F j := fun s k v h1 h2 => by rw [su_get, if_neg (by omega)]
  unfold utS
  rw [a _ _ _ (by decide) (by decide), a _ _ _ (by decide) (by decide), a _ _ _ (by decide) (by decide), a _ _ _ (by decide) (by decide), a _ _ _ (by decide) (by decide), a _ _ _ (by decide) (by decide), a _ _ _ (by decide) (by decide), a _ _ _ (by decide) (by decide)]
theorem utS_ut (s o : mS) (x : Nat) : ut (utS s o x) o x := by
  simp [ut, utS, su_get]
theorem lp_undoD : ∀ (f p : Nat) (s o : mS), p + f = P → zo g A z o P S → s 2 0 = nI P → ∃ s' o', (∀ F j, (F < 8 ∨ 15 < F) ∨ j < p → s' F j = s F j) ∧ (∀ F j, (F < 64 ∨ 66 < F) ∨ j < p → o' F j = o F j) ∧ (∀ q, p ≤ q → q < P → ud s' o' o q) ∧ ∀ {out : xR}, Ev g 68 26 [some (.ref (A 0 0)), some (.int (nI p))] [] (cp A z s o) out = Ev g 68 76 [some (.ref (A 0 0)), some (.int 0)] [] (cp A z s' o') out := by
  intro f
  induction f with
  | zero =>
    intro p s o hp hz hP
    have hY := hz.1
    have hP60 := hY.2.2.2.2.2.1.1
    have k1 := ps_size (g := g) (A := A) (s := s) hz hP
    have h2 : nI P ≤ nI p := nI_le (by omega) (by omega)
    refine ⟨s, o, fun _ _ _ => rfl, fun _ _ _ => rfl, fun q h1 h2 => by omega, fun {out} => ?_⟩
    rw [e_X9_undo_26 rfl]
    simp only [e_X9_undo_27, e_X9_undo_28, e_X9_undo_34, e_X9_undo_37, e_X9_undo_38, e_X9_undo_41, e_X9_undo_45n, e_X9_undo_45, e_X9_undo_48, e_X9_undo_51, e_X9_undo_52, e_X9_undo_55, e_X9_undo_59n, e_X9_undo_59, e_X9_undo_62, e_X9_undo_68, e_X9_undo_71, e_X9_undo_74, e_X9_undo_75, cO_0 hY, cg_0_14 hY, hb_0 hY, cw_0_14 hY, cg_0_10 hY, cw_0_10 hY, cg_0_0 hY, cO_30 hY, cg_30_4 hY, cg_30_5 hY, cg_0_1 hY, cO_34 hY, cg_34_7 hY, cg_34_8 hY, cg_0_6 hY, cg_0_7 hY, cg_0_9 hY, rP_n, rS_n, xrd_rP, xrd_rS, xfit_rP, xfit_rS, xcat_rP, xcat_rS, nem, su_get, z1e0, z2e0, z3e0, z4e0, z5e0, z0e1, zme0, Nat.reduceEqDiff, not_true_eq_false, and_self, false_or, or_false, or_self,  bI_eq0, bI_eq1, i10, i20, i30, i00, ne_eq, Decidable.not_not, true_and, and_true, false_and, and_false, xrd_ref, xrd_null, xrd_rf, xid_int, xcat_int, xcat_ref, xcat_null, xcat_long, xcat_rf, xfit_int, xfit_0, xfit_1, xfit_ref, xfit_null, xfit_rf, not_false_eq_true, ↓reduceIte, z01_0, z01_1, bI_01, true_or, or_true, c_X9_undo_31 (cO_1 hY) k1, h2]
  | succ f ih =>
    intro p s o hp hz hP
    have hY := hz.1
    have hP60 := hY.2.2.2.2.2.1.1
    have k1 := ps_size (g := g) (A := A) (s := s) hz hP
    have h2 : ¬ nI P ≤ nI p := nI_ge (by omega) (by omega)
    have hpP : p < P := by omega
    have k2 := ps_get (g := g) (A := A) (s := s) hz hP hpP
    have k3 := cd_undoDuty (g := g) (A := A) (z := z) (s := s) (o := o) hY hpP
    have ko : ∀ F j, (F < 64 ∨ 66 < F) ∨ j ≠ p → udO o p F j = o F j := fun F j h => udO_o o p h
    have ks : ∀ F j, (F < 8 ∨ 15 < F) ∨ j ≠ p → udS s o p F j = s F j := fun F j h => udS_o s o p h
    obtain ⟨s', o', r0, r1, r2, r3⟩ := ih (p + 1) (udS s o p) (udO o p) (by omega) (zo_o hz (ko _ _ (by omega)) (ko _ _ (by omega)) (ko _ _ (by omega)) (fun j => ko _ _ (by omega)) (fun j => ko _ _ (by omega)) (fun j => ko _ _ (by omega))) (by rw [ks _ _ (by omega)]; exact hP)
    refine ⟨s', o', fun F j h => ?_, fun F j h => ?_, fun q h1 h2 => ?_, fun {out} => ?_⟩
    · rw [r0 F j (by omega), ks F j (by omega)]
    · rw [r1 F j (by omega), ko F j (by omega)]
    · by_cases e : q = p
      · subst e
        have := udS_ud s o q
        unfold ud at this ⊢
        rw [r0 8 q (by omega), r0 10 q (by omega), r0 15 q (by omega), r0 11 q (by omega), r0 12 q (by omega), r0 13 q (by omega), r1 64 q (by omega), r1 65 q (by omega), r1 66 q (by omega)]
        exact this
      · have := r2 q (by omega) h2
        unfold ud at this ⊢
        rw [ko 70 q (by omega), ko 73 q (by omega), ko 74 q (by omega), ko 75 q (by omega), ko 76 q (by omega), ko 78 q (by omega), ko 71 q (by omega), ko 72 q (by omega), ko 77 q (by omega)] at this
        exact this
    · rw [e_X9_undo_26 rfl]
      simp only [e_X9_undo_27, e_X9_undo_28, e_X9_undo_34, e_X9_undo_37, e_X9_undo_38, e_X9_undo_41, e_X9_undo_45n, e_X9_undo_45, e_X9_undo_48, e_X9_undo_51, e_X9_undo_52, e_X9_undo_55, e_X9_undo_59n, e_X9_undo_59, e_X9_undo_62, e_X9_undo_68, e_X9_undo_71, e_X9_undo_74, e_X9_undo_75, cO_0 hY, cg_0_14 hY, hb_0 hY, cw_0_14 hY, cg_0_10 hY, cw_0_10 hY, cg_0_0 hY, cO_30 hY, cg_30_4 hY, cg_30_5 hY, cg_0_1 hY, cO_34 hY, cg_34_7 hY, cg_34_8 hY, cg_0_6 hY, cg_0_7 hY, cg_0_9 hY, rP_n, rS_n, xrd_rP, xrd_rS, xfit_rP, xfit_rS, xcat_rP, xcat_rS, nem, su_get, z1e0, z2e0, z3e0, z4e0, z5e0, z0e1, zme0, Nat.reduceEqDiff, not_true_eq_false, and_self, false_or, or_false, or_self,  bI_eq0, bI_eq1, i10, i20, i30, i00, ne_eq, Decidable.not_not, true_and, and_true, false_and, and_false, xrd_ref, xrd_null, xrd_rf, xid_int, xcat_int, xcat_ref, xcat_null, xcat_long, xcat_rf, xfit_int, xfit_0, xfit_1, xfit_ref, xfit_null, xfit_rf, not_false_eq_true, ↓reduceIte, z01_0, z01_1, bI_01, true_or, or_true, c_X9_undo_31 (cO_1 hY) k1, c_X9_undo_42 (cO_1 hY) k2, c_X9_undo_56 _ (cO_1 hY) k2, c_X9_undo_65 _ (cO_31 hY hpP) k3, h2, hpP, cO_30 hY, nI_1]
      exact r3
theorem lp_undoT : ∀ (f x : Nat) (s o : mS), x + f = S → zo g A z o P S → s 19 0 = nI S → ∃ s', (∀ F j, (F < 26 ∨ 33 < F) ∨ j < x → s' F j = s F j) ∧ (∀ q, x ≤ q → q < S → ut s' o q) ∧ ∀ {out : xR}, Ev g 68 76 [some (.ref (A 0 0)), some (.int (nI x))] [] (cp A z s o) out = Ev g 68 124 [some (.ref (A 0 0)), some (.int (nI S))] [] (cp A z s' o) out := by
  intro f
  induction f with
  | zero =>
    intro x s o hx hz hS
    have hY := hz.1
    have hS4 := hY.2.2.2.2.2.1.2
    have k1 := ss_size (g := g) (A := A) (s := s) hz hS
    have h2 : nI S ≤ nI x := nI_le (by omega) (by omega)
    have e : x = S := by omega
    subst e
    refine ⟨s, fun _ _ _ => rfl, fun q h1 h2 => by omega, fun {out} => ?_⟩
    rw [e_X9_undo_76 rfl]
    simp only [e_X9_undo_77, e_X9_undo_78, e_X9_undo_84, e_X9_undo_87, e_X9_undo_88, e_X9_undo_91, e_X9_undo_95n, e_X9_undo_95, e_X9_undo_98, e_X9_undo_101, e_X9_undo_102, e_X9_undo_105, e_X9_undo_109n, e_X9_undo_109, e_X9_undo_112, e_X9_undo_118, e_X9_undo_121, cO_0 hY, cg_0_14 hY, hb_0 hY, cw_0_14 hY, cg_0_10 hY, cw_0_10 hY, cg_0_0 hY, cO_30 hY, cg_30_4 hY, cg_30_5 hY, cg_0_1 hY, cO_34 hY, cg_34_7 hY, cg_34_8 hY, cg_0_6 hY, cg_0_7 hY, cg_0_9 hY, rP_n, rS_n, xrd_rP, xrd_rS, xfit_rP, xfit_rS, xcat_rP, xcat_rS, nem, su_get, z1e0, z2e0, z3e0, z4e0, z5e0, z0e1, zme0, Nat.reduceEqDiff, not_true_eq_false, and_self, false_or, or_false, or_self,  bI_eq0, bI_eq1, i10, i20, i30, i00, ne_eq, Decidable.not_not, true_and, and_true, false_and, and_false, xrd_ref, xrd_null, xrd_rf, xid_int, xcat_int, xcat_ref, xcat_null, xcat_long, xcat_rf, xfit_int, xfit_0, xfit_1, xfit_ref, xfit_null, xfit_rf, not_false_eq_true, ↓reduceIte, z01_0, z01_1, bI_01, true_or, or_true, c_X9_undo_81 (cO_2 hY) k1, h2]
  | succ f ih =>
    intro x s o hx hz hS
    have hY := hz.1
    have hS4 := hY.2.2.2.2.2.1.2
    have k1 := ss_size (g := g) (A := A) (s := s) hz hS
    have h2 : ¬ nI S ≤ nI x := nI_ge (by omega) (by omega)
    have hxS : x < S := by omega
    have k2 := ss_get (g := g) (A := A) (s := s) hz hS hxS
    have k3 := cd_undoTrip (g := g) (A := A) (z := z) (s := s) (o := o) hY hxS
    have ks : ∀ F j, (F < 26 ∨ 33 < F) ∨ j ≠ x → utS s o x F j = s F j := fun F j h => utS_o s o x h
    obtain ⟨s', r0, r2, r3⟩ := ih (x + 1) (utS s o x) o (by omega) hz (by rw [ks _ _ (by omega)]; exact hS)
    refine ⟨s', fun F j h => ?_, fun q h1 h2 => ?_, fun {out} => ?_⟩
    · rw [r0 F j (by omega), ks F j (by omega)]
    · by_cases e : q = x
      · subst e
        have := utS_ut s o q
        unfold ut at this ⊢
        rw [r0 26 q (by omega), r0 27 q (by omega), r0 28 q (by omega), r0 29 q (by omega), r0 30 q (by omega), r0 31 q (by omega), r0 32 q (by omega), r0 33 q (by omega)]
        exact this
      · exact r2 q (by omega) h2
    · rw [e_X9_undo_76 rfl]
      simp only [e_X9_undo_77, e_X9_undo_78, e_X9_undo_84, e_X9_undo_87, e_X9_undo_88, e_X9_undo_91, e_X9_undo_95n, e_X9_undo_95, e_X9_undo_98, e_X9_undo_101, e_X9_undo_102, e_X9_undo_105, e_X9_undo_109n, e_X9_undo_109, e_X9_undo_112, e_X9_undo_118, e_X9_undo_121, cO_0 hY, cg_0_14 hY, hb_0 hY, cw_0_14 hY, cg_0_10 hY, cw_0_10 hY, cg_0_0 hY, cO_30 hY, cg_30_4 hY, cg_30_5 hY, cg_0_1 hY, cO_34 hY, cg_34_7 hY, cg_34_8 hY, cg_0_6 hY, cg_0_7 hY, cg_0_9 hY, rP_n, rS_n, xrd_rP, xrd_rS, xfit_rP, xfit_rS, xcat_rP, xcat_rS, nem, su_get, z1e0, z2e0, z3e0, z4e0, z5e0, z0e1, zme0, Nat.reduceEqDiff, not_true_eq_false, and_self, false_or, or_false, or_self,  bI_eq0, bI_eq1, i10, i20, i30, i00, ne_eq, Decidable.not_not, true_and, and_true, false_and, and_false, xrd_ref, xrd_null, xrd_rf, xid_int, xcat_int, xcat_ref, xcat_null, xcat_long, xcat_rf, xfit_int, xfit_0, xfit_1, xfit_ref, xfit_null, xfit_rf, not_false_eq_true, ↓reduceIte, z01_0, z01_1, bI_01, true_or, or_true, c_X9_undo_81 (cO_2 hY) k1, c_X9_undo_92 (cO_2 hY) k2, c_X9_undo_106 _ (cO_2 hY) k2, c_X9_undo_115 _ (cO_35 hY hxS) k3, h2, hxS, cO_34 hY, nI_1]
      exact r3
theorem cd_undo0 {a1 : Option Value} (hY : zok g A z P S) (h : o 60 0 = 0) : Ev g 68 0 [some (.ref (A 0 0)), a1] [] (cp A z s o) (.inl (some (.int 0)), cp A z s o) := by
  simp only [e_X9_undo_0, e_X9_undo_1, e_X9_undo_4, e_X9_undo_7, e_X9_undo_8, cO_0 hY, cg_0_14 hY, hb_0 hY, cw_0_14 hY, cg_0_10 hY, cw_0_10 hY, cg_0_0 hY, cO_30 hY, cg_30_4 hY, cg_30_5 hY, cg_0_1 hY, cO_34 hY, cg_34_7 hY, cg_34_8 hY, cg_0_6 hY, cg_0_7 hY, cg_0_9 hY, rP_n, rS_n, xrd_rP, xrd_rS, xfit_rP, xfit_rS, xcat_rP, xcat_rS, nem, su_get, z1e0, z2e0, z3e0, z4e0, z5e0, z0e1, zme0, Nat.reduceEqDiff, not_true_eq_false, and_self, false_or, or_false, or_self,  bI_eq0, bI_eq1, i10, i20, i30, i00, ne_eq, Decidable.not_not, true_and, and_true, false_and, and_false, xrd_ref, xrd_null, xrd_rf, xid_int, xcat_int, xcat_ref, xcat_null, xcat_long, xcat_rf, xfit_int, xfit_0, xfit_1, xfit_ref, xfit_null, xfit_rf, not_false_eq_true, ↓reduceIte, z01_0, z01_1, bI_01, true_or, or_true, h]
theorem cd_undo {s0 o0 : mS} {L L0 : Nat} {a1 : Option Value} (hz : zo g A z o P S) (hP : s 2 0 = nI P) (hS : s 19 0 = nI S) (hl : lOK s P L) (hc : L ≤ z.1.2.2 3) (h60 : ¬ o 60 0 = 0) (h52 : ¬ s 52 0 = 0) (hk : kpt s0 o0 o P S L0) (hw : was s s0) (hl0 : lOK s0 P L0) : ∃ z' o', zo g A z' o' P S ∧ zle g A z z' P S ∧ L0 ≤ z'.1.2.2 3 ∧ (∀ p, p < P → o' 64 p = o0 64 p ∧ o' 65 p = o0 65 p ∧ o' 66 p = o0 66 p) ∧ (∀ F j, (F < 60 ∨ (60 < F ∧ F < 63) ∨ 66 < F) → o' F j = o F j) ∧ o' 60 0 = 0 ∧ Ev g 68 0 [some (.ref (A 0 0)), a1] [] (cp A z s o) (.inl (some (.int 1)), cp A z' (f_undo s) o') := by
  have hY := hz.1
  have hP60 := hY.2.2.2.2.2.1.1
  have hS4 := hY.2.2.2.2.2.1.2
  obtain ⟨kD, kT, k91, k94⟩ := hk
  have hLP0 := hl0.2.1
  have f60 : ∀ F j, F ≠ 60 → su o 60 0 0 F j = o F j := fun F j h => su_other _ _ h
  have f1 : ∀ F j, F ≠ 1 → su s 1 0 (s 1 0 - 1) F j = s F j := fun F j h => su_other _ _ h
  have z0 := zo_o hz (f60 90 0 (by decide)) (f60 91 0 (by decide)) (f60 92 0 (by decide)) (fun j => f60 93 j (by decide)) (fun j => f60 94 j (by decide)) (fun j => f60 95 j (by decide))
  obtain ⟨s1, o1, d0, d1, d2, d3⟩ := lp_undoD (g := g) (A := A) (z := z) (P := P) (S := S) P 0 (su s 1 0 (s 1 0 - 1)) (su o 60 0 0) (by omega) z0 (by rw [f1 _ _ (by decide)]; exact hP)
  have z1 := zo_o z0 (d1 90 0 (by omega)) (d1 91 0 (by omega)) (d1 92 0 (by omega)) (fun j => d1 93 j (by omega)) (fun j => d1 94 j (by omega)) (fun j => d1 95 j (by omega))
  obtain ⟨s2, e0, e2, e3⟩ := lp_undoT (g := g) (A := A) (z := z) (P := P) (S := S) S 0 s1 o1 (by omega) z1 (by rw [d0 _ _ (by omega), f1 _ _ (by decide)]; exact hS)
  have o94 : ∀ j, o1 94 j = o 94 j := fun j => by rw [d1 _ _ (by omega), f60 _ _ (by decide)]
  have o91 : o1 91 0 = nI L0 := by rw [d1 _ _ (by omega), f60 _ _ (by decide)]; exact k91
  obtain ⟨K, K1, K2, K3, K4⟩ := z1.2.2.2.1
  have eK : K = L0 := (nI_eq (by omega) (by omega)).mp (K2.symm.trans o91)
  subst eK
  obtain ⟨z', s3, o3, u1, u2, u3, u4, u5, u6⟩ := cd_copy (g := g) (A := A) (z := z) (s := s2) (o := o1) (l := 3) (l2 := 4) (n := K) (n1 := L) (N := fun j => (s0 17 j).toNatClampNeg) (a2 := none) (by decide) (by decide) (by decide) (by decide) (by decide) K1 (fun j hj => by
    obtain ⟨p, hp, e⟩ := hl0.2.2.1 j hj
    simp only [e, nI_clamp (show p < 2 ^ 31 by omega)]
    exact hp) hY K2 K3 (fun j hj => by
    obtain ⟨p, hp, e⟩ := hl0.2.2.1 j hj
    simp only [raw, o94, k94 j hj, e, nI_clamp (show p < 2 ^ 31 by omega)]) (by
    simp only [sz]
    rw [e0 _ _ (by omega), d0 _ _ (by omega), f1 _ _ (by decide)]; exact hl.1) hc
  have hY' := u1.1
  have e17 : ∀ j, j < K → s3 17 j = s0 17 j := by
    intro j hj
    obtain ⟨p, hp, e⟩ := hl0.2.2.1 j hj
    have := u5 j hj
    simp only [raw, e, nI_clamp (show p < 2 ^ 31 by omega)] at this
    rw [e]; exact this
  have s3o : ∀ F j, F ≠ 17 → F ≠ 18 → s3 F j = s2 F j := by
    intro F j h1 h2
    refine u3.1 F j ?_
    unfold ownS
    split <;> simp_all
  have o3o : ∀ F j, F ≠ 63 → o3 F j = o1 F j := by
    intro F j h1
    refine u3.2 F j ?_
    unfold ownO
    split <;> simp_all
  have k5 := cd_logClear (g := g) (A := A) (z := z') (s := s3) (o := o3) hY'
  obtain ⟨v1, v2, v3, v4, v5, v6, v7, v8⟩ := undo_v h52 hw
  have fin : cp A z' (su s3 47 0 0) o3 = cp A z' (f_undo s) o3 := by
    have e47 : ∀ F j, F ≠ 47 → su s3 47 0 0 F j = s3 F j := fun F j h => su_other _ _ h
    refine cp_rng (n := K) hY' (by omega) (by rw [v2]; exact hl0.1) (by rw [e47 _ _ (by decide)]; exact u4) (fun j hj => by rw [e47 _ _ (by decide), e17 j hj, v1 17 j (by decide) (by decide) (by omega)]) (fun F j hn h17 h18 hp hs => ?_)
    by_cases a47 : F = 47
    · subst a47
      by_cases j0 : j = 0
      · subst j0; rw [v5]; simp [su]
      · rw [su_get, if_neg (fun q => j0 q.2), (v8 j j0).2.1, s3o _ _ h17 h18, e0 _ _ (by omega), d0 _ _ (by omega), f1 _ _ (by decide)]
    · rw [e47 _ _ a47, s3o _ _ h17 h18]
      obtain ⟨F50, F0, F9, F14, F16⟩ := own_lt hn
      by_cases a1 : F = 1
      · subst a1
        rw [e0 _ _ (by omega), d0 _ _ (by omega)]
        by_cases j0 : j = 0
        · subst j0; rw [v4]; simp [su]
        · rw [su_get, if_neg (fun q => j0 q.2), (v8 j j0).1]
      · by_cases aD : 8 ≤ F ∧ F ≤ 15
        · have hF : F = 8 ∨ F = 10 ∨ F = 11 ∨ F = 12 ∨ F = 13 ∨ F = 15 := by omega
          have jP : j < P := by
            rcases hF with rfl | rfl | rfl | rfl | rfl | rfl <;> exact hp (by simp [ownS]) (by simp [ownS])
          rw [e0 _ _ (by omega), v1 F j (by omega) (by omega) (by omega)]
          obtain ⟨⟨w1, w2, w3, w4, w5, w6⟩, _⟩ := d2 j (Nat.zero_le _) jP
          obtain ⟨⟨q1, q2, q3, q4⟩, q5, q6, q7, q8, q9⟩ := kD j jP
          rw [f60 _ _ (by decide)] at w1 w2 w3 w4 w5 w6
          rcases hF with rfl | rfl | rfl | rfl | rfl | rfl
          · exact w1.trans q1
          · exact w2.trans q4
          · exact w4.trans q6
          · exact w5.trans q7
          · exact w6.trans q9
          · exact w3.trans q5
        · by_cases aT : 26 ≤ F ∧ F ≤ 33
          · have xS : j < S := by
              have hF : F = 26 ∨ F = 27 ∨ F = 28 ∨ F = 29 ∨ F = 30 ∨ F = 31 ∨ F = 32 ∨ F = 33 := by omega
              rcases hF with rfl | rfl | rfl | rfl | rfl | rfl | rfl | rfl <;> exact hs (by simp [ownS])
            rw [v3 F j (by omega) (by omega) (by omega)]
            obtain ⟨⟨w1, w2, w3, w4⟩, w5, w6, w7, w8⟩ := e2 j (Nat.zero_le _) xS
            obtain ⟨⟨q1, q2, q3, q4⟩, q5, q6, q7, q8⟩ := kT j xS
            have f : ∀ F, 80 ≤ F → F ≤ 87 → o1 F j = o F j := fun F h1 h2 => by rw [d1 _ _ (by omega), f60 _ _ (by omega)]
            have hF : F = 26 ∨ F = 27 ∨ F = 28 ∨ F = 29 ∨ F = 30 ∨ F = 31 ∨ F = 32 ∨ F = 33 := by omega
            rcases hF with rfl | rfl | rfl | rfl | rfl | rfl | rfl | rfl
            · exact (w1.trans (f _ (by decide) (by decide))).trans q1
            · exact (w2.trans (f _ (by decide) (by decide))).trans q2
            · exact (w3.trans (f _ (by decide) (by decide))).trans q3
            · exact (w4.trans (f _ (by decide) (by decide))).trans q4
            · exact (w5.trans (f _ (by decide) (by decide))).trans q5
            · exact (w6.trans (f _ (by decide) (by decide))).trans q6
            · exact (w7.trans (f _ (by decide) (by decide))).trans q7
            · exact (w8.trans (f _ (by decide) (by decide))).trans q8
          · rw [e0 _ _ (by omega), d0 _ _ (by omega), f1 _ _ a1, v7 F j (by omega)]
  have m := u1.2.2.2.2
  have z3 : zo g A z' o3 P S := by
    refine ⟨hY', ⟨Nat.le_trans z1.2.1.1 (m 0), Nat.le_trans z1.2.1.2 (m 1)⟩, ⟨by rw [o3o _ _ (by decide)]; exact z1.2.2.1.1, Nat.le_trans z1.2.2.1.2.1 (m 2), fun j hj => by rw [o3o _ _ (by decide)]; exact z1.2.2.1.2.2 j hj⟩, ⟨K, K1, by rw [o3o _ _ (by decide)]; exact K2, Nat.le_trans K3 (m 4), fun j hj => by rw [o3o _ _ (by decide)]; exact K4 j hj⟩, ?_⟩
    obtain ⟨W, w1, w2, w3, w4⟩ := z1.2.2.2.2
    exact ⟨W, w1, by rw [o3o _ _ (by decide)]; exact w2, Nat.le_trans w3 (m 5), fun j hj => by rw [o3o _ _ (by decide)]; exact w4 j hj⟩
  refine ⟨z', o3, z3, u1, u2, fun p hp => ?_, fun F j h => ?_, ?_, ?_⟩
  · obtain ⟨_, w1, w2, w3⟩ := d2 p (Nat.zero_le _) hp
    obtain ⟨⟨q1, q2, q3, q4⟩, q5, q6, q7, q8, q9⟩ := kD p hp
    rw [f60 _ _ (by decide)] at w1 w2 w3
    rw [o3o _ _ (by decide), o3o _ _ (by decide), o3o _ _ (by decide)]
    exact ⟨w1.trans q2, w2.trans q3, w3.trans q8⟩
  · rw [o3o _ _ (by omega), d1 _ _ (by omega), f60 _ _ (by omega)]
  · rw [o3o _ _ (by decide), d1 _ _ (by omega)]; simp [su]
  · rw [← fin]
    rw [nI_0] at d3 e3
    simp only [e_X9_undo_0, e_X9_undo_1, e_X9_undo_4, e_X9_undo_7, e_X9_undo_8, e_X9_undo_9, e_X9_undo_10, e_X9_undo_11, e_X9_undo_14, e_X9_undo_15, e_X9_undo_16, e_X9_undo_19, e_X9_undo_20, e_X9_undo_21, e_X9_undo_24, e_X9_undo_25, cO_0 hY, cg_0_14 hY, cw_0_14 hY, cg_0_10 hY, cw_0_10 hY, hb_0 hY, nem, su_get, z1e0, z2e0, z3e0, z4e0, z5e0, z0e1, zme0, Nat.reduceEqDiff, not_true_eq_false, and_self, false_or, or_false, or_self,  bI_eq0, bI_eq1, i10, i20, i30, i00, ne_eq, Decidable.not_not, true_and, and_true, false_and, and_false, xrd_ref, xrd_null, xrd_rf, xid_int, xcat_int, xcat_ref, xcat_null, xcat_long, xcat_rf, xfit_int, xfit_0, xfit_1, xfit_ref, xfit_null, xfit_rf, not_false_eq_true, ↓reduceIte, z01_0, z01_1, bI_01, true_or, or_true, h60, d3, e3]
    simp only [e_X9_undo_124, e_X9_undo_125, e_X9_undo_128, e_X9_undo_129, e_X9_undo_135, e_X9_undo_136, e_X9_undo_142, e_X9_undo_143, cO_0 hY, cg_0_6 hY, cg_0_7 hY, nem, su_get, z1e0, z2e0, z3e0, z4e0, z5e0, z0e1, zme0, Nat.reduceEqDiff, not_true_eq_false, and_self, false_or, or_false, or_self,  bI_eq0, bI_eq1, i10, i20, i30, i00, ne_eq, Decidable.not_not, true_and, and_true, false_and, and_false, xrd_ref, xrd_null, xrd_rf, xid_int, xcat_int, xcat_ref, xcat_null, xcat_long, xcat_rf, xfit_int, xfit_0, xfit_1, xfit_ref, xfit_null, xfit_rf, not_false_eq_true, ↓reduceIte, z01_0, z01_1, bI_01, true_or, or_true, c_X9_undo_132 _ (cO_19 hY) u6, cO_0 hY', cg_0_9 hY', c_X9_undo_139 (cO_22 hY') k5]
end UN
