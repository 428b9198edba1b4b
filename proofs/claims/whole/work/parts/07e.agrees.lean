/-! ===== the class: asking ===== -/
def agO (o : mS) (w : Int32) : mS := if w = 4 then mc (mc o 3) 3 else o
theorem ag_vals (s : mS) (x p H : Nat) (free : Int32) : ag s x p H free = 0 ∨ ag s x p H free = 1 ∨ ag s x p H free = 2 ∨ ag s x p H free = 3 ∨ ag s x p H free = 4 := by
  unfold ag
  repeat' split
  all_goals simp
theorem d34 : ¬ ((3 : Int32) = 4) := by decide
theorem d43 : ¬ ((4 : Int32) = 3) := by decide
theorem d03 : ¬ ((0 : Int32) = 3) := by decide
theorem d04 : ¬ ((0 : Int32) = 4) := by decide
theorem d13 : ¬ ((1 : Int32) = 3) := by decide
theorem d14 : ¬ ((1 : Int32) = 4) := by decide
theorem d23 : ¬ ((2 : Int32) = 3) := by decide
theorem d24 : ¬ ((2 : Int32) = 4) := by decide
section CA
variable {g : Nat × Nat × Nat} {A : Nat → Nat → Nat} {z : zT} {s o s' o' : mS} {P S : Nat}
theorem cd_agrees {x p H L K B : Nat} {free : Int32} {a5 : Option Value} (hY : zok g A z P S) (hl : lOK s P L) (hc : L ≤ z.1.2.2 3) (hp : p < P) (hx : x < S) (hH : H < 9600) (hk : s 3 p = 0 ∨ s 3 p = 1 ∨ s 3 p = 2 ∨ s 3 p = 3 ∨ s 3 p = 4) (hA : s 47 0 = nI B) (hB : B < 2 ^ 31) (hw : ag s x p H free = 4 → pl s (nI p) L 0 = nI K ∧ K < L ∧ s 17 K = nI p) : Ev g 91 0 [some (.ref (A 0 0)), some (.ref (A 34 x)), some (.ref (A 30 p)), some (.int free), some (.int (nI H)), a5] [] (cp A z s o) (.inl (some (.int (bI (ag s x p H free = 0)))), cp A z (f_asks s x p (ag s x p H free) L K) (agO o (ag s x p H free))) := by
  have k1 := cd_against (g := g) (s := s) (o := o) (free := free) hY hp hx hH hk
  have v := ag_vals s x p H free
  generalize ag s x p H free = w at *
  have k2 := cd_logAdd (g := g) (s := s) (o := o) (x := x) (p := p) (w := w) hY hA hB
  have hf : ∀ {out : xR}, Ev g 91 0 [some (.ref (A 0 0)), some (.ref (A 34 x)), some (.ref (A 30 p)), some (.int free), some (.int (nI H)), a5] [] (cp A z s o) out = Ev g 91 27 [some (.ref (A 0 0)), some (.ref (A 34 x)), some (.ref (A 30 p)), some (.int free), some (.int (nI H)), some (.int w)] [] (cp A z (lgS s x p w) o) out := by
    intro out
    simp only [e_X9_agrees_0, e_X9_agrees_1, e_X9_agrees_2, e_X9_agrees_3, e_X9_agrees_8, e_X9_agrees_10, e_X9_agrees_11, e_X9_agrees_14, e_X9_agrees_15, e_X9_agrees_18, e_X9_agrees_19, e_X9_agrees_22, cO_0 hY, cg_0_9 hY, cO_34 hY, cg_34_0 hY, cO_30 hY, cg_30_0 hY, hb_0 hY, cw_0_13 hY, cg_0_6 hY, rP_n, rS_n, xrd_rP, xrd_rS, xfit_rP, xfit_rS, xcat_rP, xcat_rS, nem, su_get, z1e0, z2e0, z3e0, z4e0, z5e0, z0e1, zme0, Nat.reduceEqDiff, not_true_eq_false, and_self, false_or, or_false, or_self,  bI_eq0, bI_eq1, i10, i20, i30, i00, ne_eq, Decidable.not_not, true_and, and_true, false_and, and_false, xrd_ref, xrd_null, xrd_rf, xid_int, xcat_int, xcat_ref, xcat_null, xcat_long, xcat_rf, xfit_int, xfit_0, xfit_1, xfit_ref, xfit_null, xfit_rf, not_false_eq_true, ↓reduceIte, z01_0, z01_1, bI_01, true_or, or_true, c_X9_agrees_5 _ _ k1, c_X9_agrees_24 _ k2, cO_22 hY, hp, hx]
  rw [hf]
  unfold f_asks agO
  rcases v with rfl | rfl | rfl | rfl | rfl
  · simp only [e_X9_agrees_27, e_X9_agrees_29, e_X9_agrees_30, e_X9_agrees_33, e_X9_agrees_34, e_X9_agrees_38, e_X9_agrees_41, e_X9_agrees_42, e_X9_agrees_43, e_X9_agrees_46, e_X9_agrees_48, e_X9_agrees_49, e_X9_agrees_52, e_X9_agrees_53, e_X9_agrees_56, e_X9_agrees_60, e_X9_agrees_62, e_X9_agrees_65, e_X9_agrees_66, e_X9_agrees_69, e_X9_agrees_70, cO_0 hY, cg_0_9 hY, cO_34 hY, cg_34_0 hY, cO_30 hY, cg_30_0 hY, hb_0 hY, cw_0_13 hY, cg_0_6 hY, rP_n, rS_n, xrd_rP, xrd_rS, xfit_rP, xfit_rS, xcat_rP, xcat_rS, nem, su_get, z1e0, z2e0, z3e0, z4e0, z5e0, z0e1, zme0, Nat.reduceEqDiff, not_true_eq_false, and_self, false_or, or_false, or_self,  bI_eq0, bI_eq1, i10, i20, i30, i00, ne_eq, Decidable.not_not, true_and, and_true, false_and, and_false, xrd_ref, xrd_null, xrd_rf, xid_int, xcat_int, xcat_ref, xcat_null, xcat_long, xcat_rf, xfit_int, xfit_0, xfit_1, xfit_ref, xfit_null, xfit_rf, not_false_eq_true, ↓reduceIte, z01_0, z01_1, bI_01, true_or, or_true, d03, d04, bI, msS]
  · simp only [e_X9_agrees_27, e_X9_agrees_29, e_X9_agrees_30, e_X9_agrees_33, e_X9_agrees_34, e_X9_agrees_38, e_X9_agrees_41, e_X9_agrees_42, e_X9_agrees_43, e_X9_agrees_46, e_X9_agrees_48, e_X9_agrees_49, e_X9_agrees_52, e_X9_agrees_53, e_X9_agrees_56, e_X9_agrees_60, e_X9_agrees_62, e_X9_agrees_65, e_X9_agrees_66, e_X9_agrees_69, e_X9_agrees_70, cO_0 hY, cg_0_9 hY, cO_34 hY, cg_34_0 hY, cO_30 hY, cg_30_0 hY, hb_0 hY, cw_0_13 hY, cg_0_6 hY, rP_n, rS_n, xrd_rP, xrd_rS, xfit_rP, xfit_rS, xcat_rP, xcat_rS, nem, su_get, z1e0, z2e0, z3e0, z4e0, z5e0, z0e1, zme0, Nat.reduceEqDiff, not_true_eq_false, and_self, false_or, or_false, or_self,  bI_eq0, bI_eq1, i10, i20, i30, i00, ne_eq, Decidable.not_not, true_and, and_true, false_and, and_false, xrd_ref, xrd_null, xrd_rf, xid_int, xcat_int, xcat_ref, xcat_null, xcat_long, xcat_rf, xfit_int, xfit_0, xfit_1, xfit_ref, xfit_null, xfit_rf, not_false_eq_true, ↓reduceIte, z01_0, z01_1, bI_01, true_or, or_true, d13, d14, bI, msS]
  · simp only [e_X9_agrees_27, e_X9_agrees_29, e_X9_agrees_30, e_X9_agrees_33, e_X9_agrees_34, e_X9_agrees_38, e_X9_agrees_41, e_X9_agrees_42, e_X9_agrees_43, e_X9_agrees_46, e_X9_agrees_48, e_X9_agrees_49, e_X9_agrees_52, e_X9_agrees_53, e_X9_agrees_56, e_X9_agrees_60, e_X9_agrees_62, e_X9_agrees_65, e_X9_agrees_66, e_X9_agrees_69, e_X9_agrees_70, cO_0 hY, cg_0_9 hY, cO_34 hY, cg_34_0 hY, cO_30 hY, cg_30_0 hY, hb_0 hY, cw_0_13 hY, cg_0_6 hY, rP_n, rS_n, xrd_rP, xrd_rS, xfit_rP, xfit_rS, xcat_rP, xcat_rS, nem, su_get, z1e0, z2e0, z3e0, z4e0, z5e0, z0e1, zme0, Nat.reduceEqDiff, not_true_eq_false, and_self, false_or, or_false, or_self,  bI_eq0, bI_eq1, i10, i20, i30, i00, ne_eq, Decidable.not_not, true_and, and_true, false_and, and_false, xrd_ref, xrd_null, xrd_rf, xid_int, xcat_int, xcat_ref, xcat_null, xcat_long, xcat_rf, xfit_int, xfit_0, xfit_1, xfit_ref, xfit_null, xfit_rf, not_false_eq_true, ↓reduceIte, z01_0, z01_1, bI_01, true_or, or_true, d23, d24, bI, msS]
  · have k3 := cd_needs (g := g) (s := lgS s x p 3) (o := o) hY hp hx
    have e20 : lgS s x p 3 20 x = s 20 x := lgS_o s x p 3 (by decide) (by decide) (by decide) (by decide) x
    have e8 : lgS s x p 3 8 p = s 8 p := lgS_o s x p 3 (by decide) (by decide) (by decide) (by decide) p
    rw [e20, e8] at k3
    by_cases q : ¬ s 20 x = 0 ∧ s 8 p = 0
    · simp only [e_X9_agrees_27, e_X9_agrees_29, e_X9_agrees_30, e_X9_agrees_33, e_X9_agrees_34, e_X9_agrees_38, e_X9_agrees_41, e_X9_agrees_42, e_X9_agrees_43, e_X9_agrees_46, e_X9_agrees_48, e_X9_agrees_49, e_X9_agrees_52, e_X9_agrees_53, e_X9_agrees_56, e_X9_agrees_60, e_X9_agrees_62, e_X9_agrees_65, e_X9_agrees_66, e_X9_agrees_69, e_X9_agrees_70, cO_0 hY, cg_0_9 hY, cO_34 hY, cg_34_0 hY, cO_30 hY, cg_30_0 hY, hb_0 hY, cw_0_13 hY, cg_0_6 hY, rP_n, rS_n, xrd_rP, xrd_rS, xfit_rP, xfit_rS, xcat_rP, xcat_rS, nem, su_get, z1e0, z2e0, z3e0, z4e0, z5e0, z0e1, zme0, Nat.reduceEqDiff, not_true_eq_false, and_self, false_or, or_false, or_self,  bI_eq0, bI_eq1, i10, i20, i30, i00, ne_eq, Decidable.not_not, true_and, and_true, false_and, and_false, xrd_ref, xrd_null, xrd_rf, xid_int, xcat_int, xcat_ref, xcat_null, xcat_long, xcat_rf, xfit_int, xfit_0, xfit_1, xfit_ref, xfit_null, xfit_rf, not_false_eq_true, ↓reduceIte, z01_0, z01_1, bI_01, true_or, or_true, d34, bI, msS, c_X9_agrees_35 _ _ k3, q, e20, e8]
    · simp only [e_X9_agrees_27, e_X9_agrees_29, e_X9_agrees_30, e_X9_agrees_33, e_X9_agrees_34, e_X9_agrees_38, e_X9_agrees_41, e_X9_agrees_42, e_X9_agrees_43, e_X9_agrees_46, e_X9_agrees_48, e_X9_agrees_49, e_X9_agrees_52, e_X9_agrees_53, e_X9_agrees_56, e_X9_agrees_60, e_X9_agrees_62, e_X9_agrees_65, e_X9_agrees_66, e_X9_agrees_69, e_X9_agrees_70, cO_0 hY, cg_0_9 hY, cO_34 hY, cg_34_0 hY, cO_30 hY, cg_30_0 hY, hb_0 hY, cw_0_13 hY, cg_0_6 hY, rP_n, rS_n, xrd_rP, xrd_rS, xfit_rP, xfit_rS, xcat_rP, xcat_rS, nem, su_get, z1e0, z2e0, z3e0, z4e0, z5e0, z0e1, zme0, Nat.reduceEqDiff, not_true_eq_false, and_self, false_or, or_false, or_self,  bI_eq0, bI_eq1, i10, i20, i30, i00, ne_eq, Decidable.not_not, true_and, and_true, false_and, and_false, xrd_ref, xrd_null, xrd_rf, xid_int, xcat_int, xcat_ref, xcat_null, xcat_long, xcat_rf, xfit_int, xfit_0, xfit_1, xfit_ref, xfit_null, xfit_rf, not_false_eq_true, ↓reduceIte, z01_0, z01_1, bI_01, true_or, or_true, d34, bI, msS, c_X9_agrees_35 _ _ k3, q, e20, e8]
  · obtain ⟨w1, w2, w3⟩ := hw rfl
    have e17 : ∀ j, lgS s x p 4 17 j = s 17 j := fun j => lgS_o s x p 4 (by decide) (by decide) (by decide) (by decide) j
    have e18 : lgS s x p 4 18 0 = s 18 0 := lgS_o s x p 4 (by decide) (by decide) (by decide) (by decide) 0
    have k3 := cd_moveToEnd (g := g) (s := lgS s x p 4) (o := o) (K := K) (a2 := none) hY (lOK_o hl e17 e18) hc hp (by rw [pl_o s _ e17]; exact w1) w2 (by rw [e17]; exact w3)
    simp only [e_X9_agrees_27, e_X9_agrees_29, e_X9_agrees_30, e_X9_agrees_33, e_X9_agrees_34, e_X9_agrees_38, e_X9_agrees_41, e_X9_agrees_42, e_X9_agrees_43, e_X9_agrees_46, e_X9_agrees_48, e_X9_agrees_49, e_X9_agrees_52, e_X9_agrees_53, e_X9_agrees_56, e_X9_agrees_60, e_X9_agrees_62, e_X9_agrees_65, e_X9_agrees_66, e_X9_agrees_69, e_X9_agrees_70, cO_0 hY, cg_0_9 hY, cO_34 hY, cg_34_0 hY, cO_30 hY, cg_30_0 hY, hb_0 hY, cw_0_13 hY, cg_0_6 hY, rP_n, rS_n, xrd_rP, xrd_rS, xfit_rP, xfit_rS, xcat_rP, xcat_rS, nem, su_get, z1e0, z2e0, z3e0, z4e0, z5e0, z0e1, zme0, Nat.reduceEqDiff, not_true_eq_false, and_self, false_or, or_false, or_self,  bI_eq0, bI_eq1, i10, i20, i30, i00, ne_eq, Decidable.not_not, true_and, and_true, false_and, and_false, xrd_ref, xrd_null, xrd_rf, xid_int, xcat_int, xcat_ref, xcat_null, xcat_long, xcat_rf, xfit_int, xfit_0, xfit_1, xfit_ref, xfit_null, xfit_rf, not_false_eq_true, ↓reduceIte, z01_0, z01_1, bI_01, true_or, or_true, d43, bI, msS, c_X9_agrees_57 _ _ k3, cO_19 hY]
/-- the class's heap with its own lists in order -/
def zo (g : Nat × Nat × Nat) (A : Nat → Nat → Nat) (z : zT) (o : mS) (P S : Nat) : Prop := zok g A z P S ∧ (P ≤ z.1.2.2 0 ∧ S ≤ z.1.2.2 1) ∧ (o 90 0 = nI S ∧ S ≤ z.1.2.2 2 ∧ ∀ j, j < S → ∃ y, y < S ∧ o 93 j = nI y) ∧ (∃ K, K ≤ 60 ∧ o 91 0 = nI K ∧ K ≤ z.1.2.2 4 ∧ ∀ j, j < K → ∃ q, q < P ∧ o 94 j = nI q) ∧ (∃ W, W ≤ 60 ∧ o 92 0 = nI W ∧ W ≤ z.1.2.2 5 ∧ ∀ j, j < W → ∃ q, q < P ∧ o 95 j = nI q)
/-- later, while ships are sent: of its own only the list as it was has changed -/
def ze (g : Nat × Nat × Nat) (A : Nat → Nat → Nat) (P S : Nat) (z : zT) (o : mS) (z' : zT) (o' : mS) : Prop := zo g A z' o' P S ∧ zle g A z z' P S ∧ ∀ F j, F ≠ 63 → F ≠ 92 → F ≠ 95 → o' F j = o F j
theorem ze_refl (h : zo g A z o P S) : ze g A P S z o z o := ⟨h, zle_refl h.1, fun _ _ _ _ _ => rfl⟩
theorem ze_trans {z1 z2 : zT} {o1 o2 : mS} (h1 : ze g A P S z o z1 o1) (h2 : ze g A P S z1 o1 z2 o2) : ze g A P S z o z2 o2 := ⟨h2.1, zle_trans h1.2.1 h2.2.1, fun F j a b c => (h2.2.2 F j a b c).trans (h1.2.2 F j a b c)⟩
theorem ze_63 (h : zo g A z o P S) (ho : ∀ F j, F ≠ 63 → o' F j = o F j) : ze g A P S z o z o' := by
  obtain ⟨a1, a2, a3, a4, a5⟩ := h
  refine ⟨⟨a1, a2, ?_, ?_, ?_⟩, zle_refl a1, fun F j x _ _ => ho F j x⟩
  · refine ⟨by rw [ho _ _ (by decide)]; exact a3.1, a3.2.1, fun j hj => ?_⟩
    rw [ho _ _ (by decide)]
    exact a3.2.2 j hj
  · obtain ⟨K, k1, k2, k3, k4⟩ := a4
    exact ⟨K, k1, by rw [ho _ _ (by decide)]; exact k2, k3, fun j hj => by rw [ho _ _ (by decide)]; exact k4 j hj⟩
  · obtain ⟨K, k1, k2, k3, k4⟩ := a5
    exact ⟨K, k1, by rw [ho _ _ (by decide)]; exact k2, k3, fun j hj => by rw [ho _ _ (by decide)]; exact k4 j hj⟩
theorem agO_o (o : mS) (w : Int32) : ∀ F j, F ≠ 63 → agO o w F j = o F j := by
  intro F j h
  unfold agO
  split
  · rw [mc_o _ _ h, mc_o _ _ h]
  · rfl
theorem ya_ag (s : mS) (x p H : Nat) (free : Int32) (L : Nat) : y_asks s x p H free L = if ¬ s 24 x < 0 ∧ pl s (nI p) L 0 = -1 then 5 else ag s x p H free := rfl
/-- a told one is asked -/
theorem cd_told {x H L B : Nat} {a3 : Option Value} (hz : zo g A z o P S) (hP : s 2 0 = nI P) (hl : lOK s P L) (hc : L ≤ z.1.2.2 3) (hx : x < S) (hH : H < 9600) (hkk : kOK s P) (hA : s 47 0 = nI B) (hB : B < 2 ^ 31) (hw : ¬ s 24 x < 0) (hq : ∃ q, q < P ∧ s 24 x = nI q) : ∃ o', ze g A P S z o z o' ∧ Ev g 89 0 [some (.ref (A 0 0)), some (.ref (A 34 x)), some (.int (nI H)), a3] [] (cp A z s o) (.inl (some (rP A (skA s x H (s 49 0) L).1)), cp A z (skA s x H (s 49 0) L).2 o') := by
  have hY := hz.1
  have h6 := hY.2.2.2.2.2.1.1
  obtain ⟨q, hq, eq⟩ := hq
  have cq : (nI q).toNatClampNeg = q := nI_clamp (by omega)
  have k0 := cd_pn (g := g) (s := s) (o := o) hY hP hz.2.1.1 hq
  have k1 := cd_placeOf (g := g) (s := s) (o := o) (a2 := none) hY hl hc hq
  rw [eq] at hw
  by_cases e : pl s (nI q) L 0 = -1
  · have k2 := cd_logAdd (g := g) (s := s) (o := o) (x := x) (p := q) (w := 5) hY hA hB
    have d5 : ¬ ((5 : Int32) = 4) := by decide
    have d53 : ¬ ((5 : Int32) = 3) := by decide
    refine ⟨o, ze_refl hz, ?_⟩
    simp only [skA, ya_ag, eq, cq, e, hw, not_false_eq_true, and_self, if_true, f_asks, msS, d5, d53, z5e0, false_and, if_false]
    simp only [e_X9_askTheToldOne_0, e_X9_askTheToldOne_1, e_X9_askTheToldOne_2, e_X9_askTheToldOne_8, e_X9_askTheToldOne_9, e_X9_askTheToldOne_10, e_X9_askTheToldOne_13, e_X9_askTheToldOne_17, e_X9_askTheToldOne_18, e_X9_askTheToldOne_21, e_X9_askTheToldOne_22, e_X9_askTheToldOne_25, e_X9_askTheToldOne_26, e_X9_askTheToldOne_29, e_X9_askTheToldOne_30, e_X9_askTheToldOne_33, e_X9_askTheToldOne_37, e_X9_askTheToldOne_38, e_X9_askTheToldOne_39, e_X9_askTheToldOne_40, e_X9_askTheToldOne_41, e_X9_askTheToldOne_42, e_X9_askTheToldOne_43, e_X9_askTheToldOne_46, e_X9_askTheToldOne_50, e_X9_askTheToldOne_53, e_X9_askTheToldOne_54, e_X9_askTheToldOne_57, e_X9_askTheToldOne_58, cO_34 hY, cg_34_5 hY, cO_0 hY, cg_0_6 hY, cg_0_9 hY, cg_34_0 hY, cO_30 hY, cg_30_0 hY, cg_0_12 hY, rP_n, rS_n, xrd_rP, xrd_rS, xfit_rP, xfit_rS, xcat_rP, xcat_rS, nem, su_get, z1e0, z2e0, z3e0, z4e0, z5e0, z0e1, zme0, Nat.reduceEqDiff, not_true_eq_false, and_self, false_or, or_false, or_self,  bI_eq0, bI_eq1, i10, i20, i30, i00, ne_eq, Decidable.not_not, true_and, and_true, false_and, and_false, xrd_ref, xrd_null, xrd_rf, xid_int, xcat_int, xcat_ref, xcat_null, xcat_long, xcat_rf, xfit_int, xfit_0, xfit_1, xfit_ref, xfit_null, xfit_rf, not_false_eq_true, ↓reduceIte, z01_0, z01_1, bI_01, true_or, or_true, c_X9_askTheToldOne_5 _ k0, c_X9_askTheToldOne_14 _ _ k1, c_X9_askTheToldOne_34 _ k2, cO_19 hY, cO_22 hY, cO_0 hY, hx, hq, eq, e]
  · obtain ⟨K, K1, K2, K3⟩ := inL_pl ((inL_iff hl h6).mpr e)
    have k2 := cd_agrees (g := g) (s := s) (o := o) (x := x) (p := q) (H := H) (L := L) (K := K) (free := s 49 0) (a5 := none) hY hl hc hq hx hH (hkk q hq) hA hB (fun _ => ⟨K2, K1, K3⟩)
    refine ⟨agO o (ag s x q H (s 49 0)), ze_63 hz (agO_o o _), ?_⟩
    have nK : ¬ nI K = -1 := nI_nm1 (by have := hl.2.1; omega)
    have cK : (nI K).toNatClampNeg = K := nI_clamp (by have := hl.2.1; omega)
    rw [K2] at k1
    simp only [skA, ya_ag, eq, cq, K2, nK, and_false, if_false, cK]
    by_cases f : ag s x q H (s 49 0) = 0
    · simp only [e_X9_askTheToldOne_0, e_X9_askTheToldOne_1, e_X9_askTheToldOne_2, e_X9_askTheToldOne_8, e_X9_askTheToldOne_9, e_X9_askTheToldOne_10, e_X9_askTheToldOne_13, e_X9_askTheToldOne_17, e_X9_askTheToldOne_18, e_X9_askTheToldOne_21, e_X9_askTheToldOne_22, e_X9_askTheToldOne_25, e_X9_askTheToldOne_26, e_X9_askTheToldOne_29, e_X9_askTheToldOne_30, e_X9_askTheToldOne_33, e_X9_askTheToldOne_37, e_X9_askTheToldOne_38, e_X9_askTheToldOne_39, e_X9_askTheToldOne_40, e_X9_askTheToldOne_41, e_X9_askTheToldOne_42, e_X9_askTheToldOne_43, e_X9_askTheToldOne_46, e_X9_askTheToldOne_50, e_X9_askTheToldOne_53, e_X9_askTheToldOne_54, e_X9_askTheToldOne_57, e_X9_askTheToldOne_58, cO_34 hY, cg_34_5 hY, cO_0 hY, cg_0_6 hY, cg_0_9 hY, cg_34_0 hY, cO_30 hY, cg_30_0 hY, cg_0_12 hY, rP_n, rS_n, xrd_rP, xrd_rS, xfit_rP, xfit_rS, xcat_rP, xcat_rS, nem, su_get, z1e0, z2e0, z3e0, z4e0, z5e0, z0e1, zme0, Nat.reduceEqDiff, not_true_eq_false, and_self, false_or, or_false, or_self,  bI_eq0, bI_eq1, i10, i20, i30, i00, ne_eq, Decidable.not_not, true_and, and_true, false_and, and_false, xrd_ref, xrd_null, xrd_rf, xid_int, xcat_int, xcat_ref, xcat_null, xcat_long, xcat_rf, xfit_int, xfit_0, xfit_1, xfit_ref, xfit_null, xfit_rf, not_false_eq_true, ↓reduceIte, z01_0, z01_1, bI_01, true_or, or_true, c_X9_askTheToldOne_5 _ k0, c_X9_askTheToldOne_14 _ _ k1, c_X9_askTheToldOne_47 _ _ _ k2, cO_19 hY, cO_22 hY, cO_0 hY, hx, hq, eq, nK, f, rP_r (show q < 2 ^ 31 by omega)]
    · simp only [e_X9_askTheToldOne_0, e_X9_askTheToldOne_1, e_X9_askTheToldOne_2, e_X9_askTheToldOne_8, e_X9_askTheToldOne_9, e_X9_askTheToldOne_10, e_X9_askTheToldOne_13, e_X9_askTheToldOne_17, e_X9_askTheToldOne_18, e_X9_askTheToldOne_21, e_X9_askTheToldOne_22, e_X9_askTheToldOne_25, e_X9_askTheToldOne_26, e_X9_askTheToldOne_29, e_X9_askTheToldOne_30, e_X9_askTheToldOne_33, e_X9_askTheToldOne_37, e_X9_askTheToldOne_38, e_X9_askTheToldOne_39, e_X9_askTheToldOne_40, e_X9_askTheToldOne_41, e_X9_askTheToldOne_42, e_X9_askTheToldOne_43, e_X9_askTheToldOne_46, e_X9_askTheToldOne_50, e_X9_askTheToldOne_53, e_X9_askTheToldOne_54, e_X9_askTheToldOne_57, e_X9_askTheToldOne_58, cO_34 hY, cg_34_5 hY, cO_0 hY, cg_0_6 hY, cg_0_9 hY, cg_34_0 hY, cO_30 hY, cg_30_0 hY, cg_0_12 hY, rP_n, rS_n, xrd_rP, xrd_rS, xfit_rP, xfit_rS, xcat_rP, xcat_rS, nem, su_get, z1e0, z2e0, z3e0, z4e0, z5e0, z0e1, zme0, Nat.reduceEqDiff, not_true_eq_false, and_self, false_or, or_false, or_self,  bI_eq0, bI_eq1, i10, i20, i30, i00, ne_eq, Decidable.not_not, true_and, and_true, false_and, and_false, xrd_ref, xrd_null, xrd_rf, xid_int, xcat_int, xcat_ref, xcat_null, xcat_long, xcat_rf, xfit_int, xfit_0, xfit_1, xfit_ref, xfit_null, xfit_rf, not_false_eq_true, ↓reduceIte, z01_0, z01_1, bI_01, true_or, or_true, c_X9_askTheToldOne_5 _ k0, c_X9_askTheToldOne_14 _ _ k1, c_X9_askTheToldOne_47 _ _ _ k2, cO_19 hY, cO_22 hY, cO_0 hY, hx, hq, eq, nK, f]
end CA
