/-! ===== the class: back from the post, roads, the list ===== -/
/-- since when at the post, till when on the road -/
def cam (s o : mS) (P : Nat) : Prop := ∀ p, p < P → s 8 p = 1 → o 64 p = s 9 p
def rod (s o : mS) (P : Nat) : Prop := ∀ p, p < P → s 8 p = 3 → o 65 p = s 14 p
def abn (s : mS) (P : Nat) : Prop := ∀ p, p < P → ¬ s 8 p = 2 → s 13 p = -1
section CN
variable {g : Nat × Nat × Nat} {A : Nat → Nat → Nat} {z : zT} {s o s' o' : mS} {P S : Nat}
theorem ps_size (hz : zo g A z o P S) (hP : s 2 0 = nI P) : Ev g 3 0 [some (.ref (A 1 0))] [] (cp A z s o) (.inl (some (.int (nI P))), cp A z s o) := by
  have k1 := cl_size (s := s) (o := o) hz.1 (l := 0) (by decide)
  simp only [sz, hP] at k1
  exact k1
theorem ps_get {i : Nat} (hz : zo g A z o P S) (hP : s 2 0 = nI P) (hi : i < P) : Ev g 5 0 [some (.ref (A 1 0)), some (.int (nI i))] [] (cp A z s o) (.inl (some (.ref (A 30 i))), cp A z s o) := by
  have k2 := cl_get (s := s) (o := o) hz.1 (l := 0) (by decide) hP hz.2.1.1 hi
  simp only [nu, lk] at k2
  exact k2
theorem ss_size (hz : zo g A z o P S) (hS : s 19 0 = nI S) : Ev g 3 0 [some (.ref (A 2 0))] [] (cp A z s o) (.inl (some (.int (nI S))), cp A z s o) := by
  have k1 := cl_size (s := s) (o := o) hz.1 (l := 1) (by decide)
  simp only [sz, hS] at k1
  exact k1
theorem ss_get {i : Nat} (hz : zo g A z o P S) (hS : s 19 0 = nI S) (hi : i < S) : Ev g 5 0 [some (.ref (A 2 0)), some (.int (nI i))] [] (cp A z s o) (.inl (some (.ref (A 34 i))), cp A z s o) := by
  have k2 := cl_get (s := s) (o := o) hz.1 (l := 1) (by decide) hS hz.2.1.2 hi
  simp only [nu, lk] at k2
  exact k2
/-- a state of its own that is as good for the lists -/
theorem zo_o (h : zo g A z o P S) (h90 : o' 90 0 = o 90 0) (h91 : o' 91 0 = o 91 0) (h92 : o' 92 0 = o 92 0) (h93 : ∀ j, o' 93 j = o 93 j) (h94 : ∀ j, o' 94 j = o 94 j) (h95 : ∀ j, o' 95 j = o 95 j) : zo g A z o' P S := by
  obtain ⟨a1, a2, a3, a4, a5⟩ := h
  refine ⟨a1, a2, ⟨h90.trans a3.1, a3.2.1, fun j hj => ?_⟩, ?_, ?_⟩
  · rw [h93]; exact a3.2.2 j hj
  · obtain ⟨K, k1, k2, k3, k4⟩ := a4
    exact ⟨K, k1, h91.trans k2, k3, fun j hj => by rw [h94]; exact k4 j hj⟩
  · obtain ⟨K, k1, k2, k3, k4⟩ := a5
    exact ⟨K, k1, h92.trans k2, k3, fun j hj => by rw [h95]; exact k4 j hj⟩
theorem lp_clong (hz : zo g A z o P S) (hP : s 2 0 = nI P) (hcam : cam s o P) : ∀ (f p : Nat) (b : Int32) (a3 : Option Value), p + f = P → (b = -1 ∨ ∃ q, q < P ∧ b = nI q ∧ s 8 q = 1) → Ev g 99 4 [some (.ref (A 0 0)), some (rP A b), some (.int (nI p)), a3] [] (cp A z s o) (.inl (some (rP A (gbB s f p b))), cp A z s o) := by
  have hY := hz.1
  have hP60 := hY.2.2.2.2.2.1.1
  have k1 := ps_size (g := g) (A := A) (s := s) hz hP
  intro f
  induction f with
  | zero =>
    intro p b a3 hp hb
    have h2 : nI P ≤ nI p := nI_le (by omega) (by omega)
    simp only [e_X9_longestAtPost_0, e_X9_longestAtPost_1, e_X9_longestAtPost_2, e_X9_longestAtPost_3, e_X9_longestAtPost_4, e_X9_longestAtPost_5, e_X9_longestAtPost_6, e_X9_longestAtPost_12, e_X9_longestAtPost_15, e_X9_longestAtPost_16, e_X9_longestAtPost_19, e_X9_longestAtPost_23n, e_X9_longestAtPost_23, e_X9_longestAtPost_26, e_X9_longestAtPost_27, e_X9_longestAtPost_28, e_X9_longestAtPost_31, e_X9_longestAtPost_34, e_X9_longestAtPost_35, e_X9_longestAtPost_38, e_X9_longestAtPost_39n, e_X9_longestAtPost_39, e_X9_longestAtPost_42, e_X9_longestAtPost_43, e_X9_longestAtPost_46, e_X9_longestAtPost_49, e_X9_longestAtPost_50, e_X9_longestAtPost_53, e_X9_longestAtPost_56, e_X9_longestAtPost_59, e_X9_longestAtPost_60, e_X9_longestAtPost_61, e_X9_longestAtPost_64, e_X9_longestAtPost_67, e_X9_longestAtPost_68, cO_0 hY, cg_0_0 hY, cO_30 hY, cg_30_4 hY, cO_31 hY, cg_31_0 hY, cO_32 hY, cg_32_0 hY, cg_31_1 hY, cg_32_1 hY, rP_n, rS_n, xrd_rP, xrd_rS, xfit_rP, xfit_rS, xcat_rP, xcat_rS, nem, su_get, z1e0, z2e0, z3e0, z4e0, z5e0, z0e1, zme0, Nat.reduceEqDiff, not_true_eq_false, and_self, false_or, or_false, or_self,  bI_eq0, bI_eq1, i10, i20, i30, i00, ne_eq, Decidable.not_not, true_and, and_true, false_and, and_false, xrd_ref, xrd_null, xrd_rf, xid_int, xcat_int, xcat_ref, xcat_null, xcat_long, xcat_rf, xfit_int, xfit_0, xfit_1, xfit_ref, xfit_null, xfit_rf, not_false_eq_true, ↓reduceIte, z01_0, z01_1, bI_01, true_or, or_true, c_X9_longestAtPost_9 (cO_1 hY) k1, h2, gbB]
  | succ f ih =>
    intro p b a3 hp hb
    have h2 : ¬ nI P ≤ nI p := nI_ge (by omega) (by omega)
    have hpP : p < P := by omega
    have k2 := ps_get (g := g) (A := A) (s := s) hz hP hpP
    have rp := rP_r (A := A) (show p < 2 ^ 31 by omega)
    rw [e_X9_longestAtPost_4 rfl, gbB]
    by_cases a : s 8 p = 1
    · have i1 := ih (p + 1) (nI p) (some (.ref (A 30 p))) (by omega) (Or.inr ⟨p, hpP, rfl, a⟩)
      have i2 := ih (p + 1) b (some (.ref (A 30 p))) (by omega) hb
      have cm := hcam p hpP a
      rcases hb with e | ⟨q, hq, e, e8⟩
      · subst e
        rw [rp] at i1
        simp only [e_X9_longestAtPost_5, e_X9_longestAtPost_6, e_X9_longestAtPost_12, e_X9_longestAtPost_15, e_X9_longestAtPost_16, e_X9_longestAtPost_19, e_X9_longestAtPost_23n, e_X9_longestAtPost_23, e_X9_longestAtPost_26, e_X9_longestAtPost_27, e_X9_longestAtPost_28, e_X9_longestAtPost_31, e_X9_longestAtPost_34, e_X9_longestAtPost_35, e_X9_longestAtPost_38, e_X9_longestAtPost_39n, e_X9_longestAtPost_39, e_X9_longestAtPost_42, e_X9_longestAtPost_43, e_X9_longestAtPost_46, e_X9_longestAtPost_49, e_X9_longestAtPost_50, e_X9_longestAtPost_53, e_X9_longestAtPost_56, e_X9_longestAtPost_59, e_X9_longestAtPost_60, e_X9_longestAtPost_61, e_X9_longestAtPost_64, e_X9_longestAtPost_67, e_X9_longestAtPost_68, cO_0 hY, cg_0_0 hY, cO_30 hY, cg_30_4 hY, cO_31 hY, cg_31_0 hY, cO_32 hY, cg_32_0 hY, cg_31_1 hY, cg_32_1 hY, rP_n, rS_n, xrd_rP, xrd_rS, xfit_rP, xfit_rS, xcat_rP, xcat_rS, nem, su_get, z1e0, z2e0, z3e0, z4e0, z5e0, z0e1, zme0, Nat.reduceEqDiff, not_true_eq_false, and_self, false_or, or_false, or_self,  bI_eq0, bI_eq1, i10, i20, i30, i00, ne_eq, Decidable.not_not, true_and, and_true, false_and, and_false, xrd_ref, xrd_null, xrd_rf, xid_int, xcat_int, xcat_ref, xcat_null, xcat_long, xcat_rf, xfit_int, xfit_0, xfit_1, xfit_ref, xfit_null, xfit_rf, not_false_eq_true, ↓reduceIte, z01_0, z01_1, bI_01, true_or, or_true, c_X9_longestAtPost_9 (cO_1 hY) k1, c_X9_longestAtPost_20 (cO_1 hY) k2, h2, hpP, a, nI_1]
        exact i1
      · subst e
        have cq := hcam q hq e8
        have rq := rP_r (A := A) (show q < 2 ^ 31 by omega)
        have ccq : (nI q).toNatClampNeg = q := nI_clamp (by omega)
        have e : ¬ nI q = -1 := nI_nm1 (by omega)
        by_cases c : s 9 p < s 9 q
        · have c' : ¬ s 9 q ≤ s 9 p := Int32.not_le.mpr c
          rw [rp] at i1
          rw [rq]
          simp only [e_X9_longestAtPost_5, e_X9_longestAtPost_6, e_X9_longestAtPost_12, e_X9_longestAtPost_15, e_X9_longestAtPost_16, e_X9_longestAtPost_19, e_X9_longestAtPost_23n, e_X9_longestAtPost_23, e_X9_longestAtPost_26, e_X9_longestAtPost_27, e_X9_longestAtPost_28, e_X9_longestAtPost_31, e_X9_longestAtPost_34, e_X9_longestAtPost_35, e_X9_longestAtPost_38, e_X9_longestAtPost_39n, e_X9_longestAtPost_39, e_X9_longestAtPost_42, e_X9_longestAtPost_43, e_X9_longestAtPost_46, e_X9_longestAtPost_49, e_X9_longestAtPost_50, e_X9_longestAtPost_53, e_X9_longestAtPost_56, e_X9_longestAtPost_59, e_X9_longestAtPost_60, e_X9_longestAtPost_61, e_X9_longestAtPost_64, e_X9_longestAtPost_67, e_X9_longestAtPost_68, cO_0 hY, cg_0_0 hY, cO_30 hY, cg_30_4 hY, cO_31 hY, cg_31_0 hY, cO_32 hY, cg_32_0 hY, cg_31_1 hY, cg_32_1 hY, rP_n, rS_n, xrd_rP, xrd_rS, xfit_rP, xfit_rS, xcat_rP, xcat_rS, nem, su_get, z1e0, z2e0, z3e0, z4e0, z5e0, z0e1, zme0, Nat.reduceEqDiff, not_true_eq_false, and_self, false_or, or_false, or_self,  bI_eq0, bI_eq1, i10, i20, i30, i00, ne_eq, Decidable.not_not, true_and, and_true, false_and, and_false, xrd_ref, xrd_null, xrd_rf, xid_int, xcat_int, xcat_ref, xcat_null, xcat_long, xcat_rf, xfit_int, xfit_0, xfit_1, xfit_ref, xfit_null, xfit_rf, not_false_eq_true, ↓reduceIte, z01_0, z01_1, bI_01, true_or, or_true, c_X9_longestAtPost_9 (cO_1 hY) k1, c_X9_longestAtPost_20 (cO_1 hY) k2, h2, hpP, hq, a, nI_1, cm, cq, c, c', e, ccq]
          exact i1
        · have c' : s 9 q ≤ s 9 p := Int32.not_lt.mp c
          rw [rq] at i2 ⊢
          simp only [e_X9_longestAtPost_5, e_X9_longestAtPost_6, e_X9_longestAtPost_12, e_X9_longestAtPost_15, e_X9_longestAtPost_16, e_X9_longestAtPost_19, e_X9_longestAtPost_23n, e_X9_longestAtPost_23, e_X9_longestAtPost_26, e_X9_longestAtPost_27, e_X9_longestAtPost_28, e_X9_longestAtPost_31, e_X9_longestAtPost_34, e_X9_longestAtPost_35, e_X9_longestAtPost_38, e_X9_longestAtPost_39n, e_X9_longestAtPost_39, e_X9_longestAtPost_42, e_X9_longestAtPost_43, e_X9_longestAtPost_46, e_X9_longestAtPost_49, e_X9_longestAtPost_50, e_X9_longestAtPost_53, e_X9_longestAtPost_56, e_X9_longestAtPost_59, e_X9_longestAtPost_60, e_X9_longestAtPost_61, e_X9_longestAtPost_64, e_X9_longestAtPost_67, e_X9_longestAtPost_68, cO_0 hY, cg_0_0 hY, cO_30 hY, cg_30_4 hY, cO_31 hY, cg_31_0 hY, cO_32 hY, cg_32_0 hY, cg_31_1 hY, cg_32_1 hY, rP_n, rS_n, xrd_rP, xrd_rS, xfit_rP, xfit_rS, xcat_rP, xcat_rS, nem, su_get, z1e0, z2e0, z3e0, z4e0, z5e0, z0e1, zme0, Nat.reduceEqDiff, not_true_eq_false, and_self, false_or, or_false, or_self,  bI_eq0, bI_eq1, i10, i20, i30, i00, ne_eq, Decidable.not_not, true_and, and_true, false_and, and_false, xrd_ref, xrd_null, xrd_rf, xid_int, xcat_int, xcat_ref, xcat_null, xcat_long, xcat_rf, xfit_int, xfit_0, xfit_1, xfit_ref, xfit_null, xfit_rf, not_false_eq_true, ↓reduceIte, z01_0, z01_1, bI_01, true_or, or_true, c_X9_longestAtPost_9 (cO_1 hY) k1, c_X9_longestAtPost_20 (cO_1 hY) k2, h2, hpP, hq, a, nI_1, cm, cq, c, c', e, ccq]
          exact i2
    · have i2 := ih (p + 1) b (some (.ref (A 30 p))) (by omega) hb
      simp only [e_X9_longestAtPost_5, e_X9_longestAtPost_6, e_X9_longestAtPost_12, e_X9_longestAtPost_15, e_X9_longestAtPost_16, e_X9_longestAtPost_19, e_X9_longestAtPost_23n, e_X9_longestAtPost_23, e_X9_longestAtPost_26, e_X9_longestAtPost_27, e_X9_longestAtPost_28, e_X9_longestAtPost_31, e_X9_longestAtPost_34, e_X9_longestAtPost_35, e_X9_longestAtPost_38, e_X9_longestAtPost_39n, e_X9_longestAtPost_39, e_X9_longestAtPost_42, e_X9_longestAtPost_43, e_X9_longestAtPost_46, e_X9_longestAtPost_49, e_X9_longestAtPost_50, e_X9_longestAtPost_53, e_X9_longestAtPost_56, e_X9_longestAtPost_59, e_X9_longestAtPost_60, e_X9_longestAtPost_61, e_X9_longestAtPost_64, e_X9_longestAtPost_67, e_X9_longestAtPost_68, cO_0 hY, cg_0_0 hY, cO_30 hY, cg_30_4 hY, cO_31 hY, cg_31_0 hY, cO_32 hY, cg_32_0 hY, cg_31_1 hY, cg_32_1 hY, rP_n, rS_n, xrd_rP, xrd_rS, xfit_rP, xfit_rS, xcat_rP, xcat_rS, nem, su_get, z1e0, z2e0, z3e0, z4e0, z5e0, z0e1, zme0, Nat.reduceEqDiff, not_true_eq_false, and_self, false_or, or_false, or_self,  bI_eq0, bI_eq1, i10, i20, i30, i00, ne_eq, Decidable.not_not, true_and, and_true, false_and, and_false, xrd_ref, xrd_null, xrd_rf, xid_int, xcat_int, xcat_ref, xcat_null, xcat_long, xcat_rf, xfit_int, xfit_0, xfit_1, xfit_ref, xfit_null, xfit_rf, not_false_eq_true, ↓reduceIte, z01_0, z01_1, bI_01, true_or, or_true, c_X9_longestAtPost_9 (cO_1 hY) k1, c_X9_longestAtPost_20 (cO_1 hY) k2, h2, hpP, a, nI_1]
      exact i2
theorem cd_longest {a3 : Option Value} (hz : zo g A z o P S) (hP : s 2 0 = nI P) (hcam : cam s o P) : Ev g 99 0 [some (.ref (A 0 0)), none, none, a3] [] (cp A z s o) (.inl (some (rP A (gbB s P 0 (-1)))), cp A z s o) := by
  have := lp_clong (g := g) (A := A) (s := s) hz hP hcam P 0 (-1) a3 (by omega) (Or.inl rfl)
  rw [nI_0, rP_n] at this
  simp only [e_X9_longestAtPost_0, e_X9_longestAtPost_1, e_X9_longestAtPost_2, e_X9_longestAtPost_3, nem, su_get, z1e0, z2e0, z3e0, z4e0, z5e0, z0e1, zme0, Nat.reduceEqDiff, not_true_eq_false, and_self, false_or, or_false, or_self,  bI_eq0, bI_eq1, i10, i20, i30, i00, ne_eq, Decidable.not_not, true_and, and_true, false_and, and_false, xrd_ref, xrd_null, xrd_rf, xid_int, xcat_int, xcat_ref, xcat_null, xcat_long, xcat_rf, xfit_int, xfit_0, xfit_1, xfit_ref, xfit_null, xfit_rf, not_false_eq_true, ↓reduceIte, z01_0, z01_1, bI_01, true_or, or_true]
  exact this
theorem gbB_8 (s : mS) (P : Nat) : ∀ (f p : Nat) (b : Int32), p + f = P → (b = -1 ∨ ∃ q, q < P ∧ b = nI q ∧ s 8 q = 1) → (gbB s f p b = -1 ∨ ∃ q, q < P ∧ gbB s f p b = nI q ∧ s 8 q = 1) := by
  intro f
  induction f with
  | zero => intro p b _ hb; exact hb
  | succ f ih =>
    intro p b hp hb
    rw [gbB]
    split
    · next h => exact ih _ _ (by omega) (Or.inr ⟨p, by omega, rfl, h.1⟩)
    · exact ih _ _ (by omega) hb
theorem gbS_none {s : mS} {P : Nat} (h : gbB s P 0 (-1) = -1) : ∀ n, gbS P n s = s := by
  intro n
  induction n with
  | zero => rfl
  | succ n ih => rw [gbS, if_pos h, ih]
theorem lp_bring {N : Nat} (hN : N < 2 ^ 31) : ∀ (f k : Nat) (s o : mS) (a3 : Option Value), k + f = N → zo g A z o P S → s 2 0 = nI P → cam s o P → abn s P → ∃ o', (∀ F j, F ≠ 64 → o' F j = o F j) ∧ cam (gbS P f s) o' P ∧ Ev g 98 14 [some (.ref (A 0 0)), some (.int (nI N)), some (.int (nI k)), a3] [] (cp A z s o) (.inl none, cp A z (gbS P f s) o') := by
  intro f
  induction f with
  | zero =>
    intro k s o a3 hk hz hP hcam hab
    have h2 : nI N ≤ nI k := nI_le (by omega) (by omega)
    refine ⟨o, fun _ _ _ => rfl, hcam, ?_⟩
    simp only [e_X9_bringBackFromPost_14, e_X9_bringBackFromPost_15, e_X9_bringBackFromPost_16, e_X9_bringBackFromPost_19, e_X9_bringBackFromPost_23, e_X9_bringBackFromPost_24, e_X9_bringBackFromPost_25n, e_X9_bringBackFromPost_25, e_X9_bringBackFromPost_28, e_X9_bringBackFromPost_29, e_X9_bringBackFromPost_30, e_X9_bringBackFromPost_33, e_X9_bringBackFromPost_34, e_X9_bringBackFromPost_35, e_X9_bringBackFromPost_38, e_X9_bringBackFromPost_39, e_X9_bringBackFromPost_43, e_X9_bringBackFromPost_46, e_X9_bringBackFromPost_49, nem, su_get, z1e0, z2e0, z3e0, z4e0, z5e0, z0e1, zme0, Nat.reduceEqDiff, not_true_eq_false, and_self, false_or, or_false, or_self,  bI_eq0, bI_eq1, i10, i20, i30, i00, ne_eq, Decidable.not_not, true_and, and_true, false_and, and_false, xrd_ref, xrd_null, xrd_rf, xid_int, xcat_int, xcat_ref, xcat_null, xcat_long, xcat_rf, xfit_int, xfit_0, xfit_1, xfit_ref, xfit_null, xfit_rf, not_false_eq_true, ↓reduceIte, z01_0, z01_1, bI_01, true_or, or_true, h2, gbS]
  | succ f ih =>
    intro k s o a3 hk hz hP hcam hab
    have hY := hz.1
    have hP60 := hY.2.2.2.2.2.1.1
    have h2 : ¬ nI N ≤ nI k := nI_ge (by omega) (by omega)
    have k1 := cd_longest (g := g) (A := A) (s := s) (a3 := none) hz hP hcam
    rcases gbB_8 s P P 0 (-1) (by omega) (Or.inl rfl) with e | ⟨q, hq, e, e8⟩
    · refine ⟨o, fun _ _ _ => rfl, by rw [gbS_none e]; exact hcam, ?_⟩
      rw [gbS_none e]
      rw [e, rP_n] at k1
      rw [e_X9_bringBackFromPost_14 rfl]
      simp only [e_X9_bringBackFromPost_15, e_X9_bringBackFromPost_16, e_X9_bringBackFromPost_19, e_X9_bringBackFromPost_23, e_X9_bringBackFromPost_24, e_X9_bringBackFromPost_25n, e_X9_bringBackFromPost_25, e_X9_bringBackFromPost_28, e_X9_bringBackFromPost_29, e_X9_bringBackFromPost_30, e_X9_bringBackFromPost_33, e_X9_bringBackFromPost_34, e_X9_bringBackFromPost_35, e_X9_bringBackFromPost_38, e_X9_bringBackFromPost_39, e_X9_bringBackFromPost_43, e_X9_bringBackFromPost_46, e_X9_bringBackFromPost_49, nem, su_get, z1e0, z2e0, z3e0, z4e0, z5e0, z0e1, zme0, Nat.reduceEqDiff, not_true_eq_false, and_self, false_or, or_false, or_self,  bI_eq0, bI_eq1, i10, i20, i30, i00, ne_eq, Decidable.not_not, true_and, and_true, false_and, and_false, xrd_ref, xrd_null, xrd_rf, xid_int, xcat_int, xcat_ref, xcat_null, xcat_long, xcat_rf, xfit_int, xfit_0, xfit_1, xfit_ref, xfit_null, xfit_rf, not_false_eq_true, ↓reduceIte, z01_0, z01_1, bI_01, true_or, or_true, c_X9_bringBackFromPost_20 (cO_0 hY) k1, h2]
    · have nq : ¬ nI q = -1 := nI_nm1 (by omega)
      have n2 : ¬ s 8 q = 2 := by rw [e8]; decide
      have k2 := cd_stayAt (g := g) (s := s) (o := o) (a := 0) (t := s 1 0 + 1) hY hq
      have e13 : su (su s 8 q 0) 13 q (-1) = su s 8 q 0 := su_same _ (by rw [su_other _ _ (by decide)]; exact hab q hq n2)
      rw [e13] at k2
      obtain ⟨o1, r1, r2, r3⟩ := ih (k + 1) (su s 8 q 0) (su o 64 q (s 1 0 + 1)) (some (.ref (A 30 q))) (by omega) (zo_o hz (su_other _ _ (by decide)) (su_other _ _ (by decide)) (su_other _ _ (by decide)) (fun j => su_other _ _ (by decide)) (fun j => su_other _ _ (by decide)) (fun j => su_other _ _ (by decide))) (by rw [su_other _ _ (by decide)]; exact hP) (fun p hp h8 => by
        rw [su_get] at h8
        by_cases w : p = q
        · rw [if_pos ⟨rfl, w⟩] at h8; exact absurd h8 (by decide)
        · rw [if_neg (fun z => w z.2)] at h8
          rw [su_get, if_neg (fun z => w z.2), su_other _ _ (by decide)]
          exact hcam p hp h8) (fun p hp h8 => by
        rw [su_other _ _ (by decide)]
        by_cases w : p = q
        · rw [w]; exact hab q hq n2
        · rw [su_get, if_neg (fun z => w z.2)] at h8
          exact hab p hp h8)
      have cq : (nI q).toNatClampNeg = q := nI_clamp (by omega)
      rw [gbS, e, if_neg nq, cq]
      refine ⟨o1, fun F j h => (r1 F j h).trans (su_other _ _ h), r2, ?_⟩
      rw [e, rP_r (show q < 2 ^ 31 by omega)] at k1
      rw [e_X9_bringBackFromPost_14 rfl]
      simp only [e_X9_bringBackFromPost_15, e_X9_bringBackFromPost_16, e_X9_bringBackFromPost_19, e_X9_bringBackFromPost_23, e_X9_bringBackFromPost_24, e_X9_bringBackFromPost_25n, e_X9_bringBackFromPost_25, e_X9_bringBackFromPost_28, e_X9_bringBackFromPost_29, e_X9_bringBackFromPost_30, e_X9_bringBackFromPost_33, e_X9_bringBackFromPost_34, e_X9_bringBackFromPost_35, e_X9_bringBackFromPost_38, e_X9_bringBackFromPost_39, e_X9_bringBackFromPost_43, e_X9_bringBackFromPost_46, e_X9_bringBackFromPost_49, cO_0 hY, cg_0_4 hY, cg_0_10 hY, cO_30 hY, cg_30_4 hY, rP_n, rS_n, xrd_rP, xrd_rS, xfit_rP, xfit_rS, xcat_rP, xcat_rS, nem, su_get, z1e0, z2e0, z3e0, z4e0, z5e0, z0e1, zme0, Nat.reduceEqDiff, not_true_eq_false, and_self, false_or, or_false, or_self,  bI_eq0, bI_eq1, i10, i20, i30, i00, ne_eq, Decidable.not_not, true_and, and_true, false_and, and_false, xrd_ref, xrd_null, xrd_rf, xid_int, xcat_int, xcat_ref, xcat_null, xcat_long, xcat_rf, xfit_int, xfit_0, xfit_1, xfit_ref, xfit_null, xfit_rf, not_false_eq_true, ↓reduceIte, z01_0, z01_1, bI_01, true_or, or_true, c_X9_bringBackFromPost_20 (cO_0 hY) k1, c_X9_bringBackFromPost_40 (cO_31 hY hq) k2, h2, hq, nI_1]
      exact r3
theorem cd_bring {N T : Nat} {a3 : Option Value} (hz : zo g A z o P S) (hP : s 2 0 = nI P) (hcam : cam s o P) (hab : abn s P) (hT : s 1 0 = nI T) (hT2 : T < 9600) (hN : (if T = 0 then 0 else o 62 ((T - 1) % 24)) = nI N) (hN2 : N < 2 ^ 31) : ∃ o', (∀ F j, F ≠ 64 → o' F j = o F j) ∧ cam (gbS P N s) o' P ∧ Ev g 98 0 [some (.ref (A 0 0)), none, none, a3] [] (cp A z s o) (.inl none, cp A z (gbS P N s) o') := by
  have hY := hz.1
  obtain ⟨o1, r1, r2, r3⟩ := lp_bring (g := g) (A := A) (z := z) (P := P) (S := S) hN2 N 0 s o a3 (by omega) hz hP hcam hab
  have k0 := cd_seatsBack (g := g) (s := s) (o := o) hY hT2
  rw [hN] at k0
  refine ⟨o1, r1, r2, ?_⟩
  rw [nI_0] at r3
  simp only [e_X9_bringBackFromPost_0, e_X9_bringBackFromPost_1, e_X9_bringBackFromPost_4, e_X9_bringBackFromPost_5, e_X9_bringBackFromPost_11, e_X9_bringBackFromPost_12, e_X9_bringBackFromPost_13, cO_0 hY, cg_0_4 hY, cg_0_10 hY, cO_30 hY, cg_30_4 hY, rP_n, rS_n, xrd_rP, xrd_rS, xfit_rP, xfit_rS, xcat_rP, xcat_rS, nem, su_get, z1e0, z2e0, z3e0, z4e0, z5e0, z0e1, zme0, Nat.reduceEqDiff, not_true_eq_false, and_self, false_or, or_false, or_self,  bI_eq0, bI_eq1, i10, i20, i30, i00, ne_eq, Decidable.not_not, true_and, and_true, false_and, and_false, xrd_ref, xrd_null, xrd_rf, xid_int, xcat_int, xcat_ref, xcat_null, xcat_long, xcat_rf, xfit_int, xfit_0, xfit_1, xfit_ref, xfit_null, xfit_rf, not_false_eq_true, ↓reduceIte, z01_0, z01_1, bI_01, true_or, or_true, hT, c_X9_bringBackFromPost_8 (cO_16 hY) k0]
  exact r3
/-! roads -/
theorem lp_croads {H : Nat} : ∀ (f p : Nat) (s o : mS) (a2 : Option Value), p + f = P → zo g A z o P S → s 2 0 = nI P → s 1 0 = nI H → cam s o P → rod s o P → abn s P → ∃ o', (∀ F j, F ≠ 64 → o' F j = o F j) ∧ cam (rdS H f p s) o' P ∧ abn (rdS H f p s) P ∧ Ev g 103 2 [some (.ref (A 0 0)), some (.int (nI p)), a2] [] (cp A z s o) (.inl none, cp A z (rdS H f p s) o') := by
  intro f
  induction f with
  | zero =>
    intro p s o a2 hp hz hP hH hcam hrod hab
    have hY := hz.1
    have hP60 := hY.2.2.2.2.2.1.1
    have k1 := ps_size (g := g) (A := A) (s := s) hz hP
    have h2 : nI P ≤ nI p := nI_le (by omega) (by omega)
    refine ⟨o, fun _ _ _ => rfl, hcam, hab, ?_⟩
    simp only [e_X9_endRoads_0, e_X9_endRoads_1, e_X9_endRoads_2, e_X9_endRoads_3, e_X9_endRoads_4, e_X9_endRoads_10, e_X9_endRoads_13, e_X9_endRoads_14, e_X9_endRoads_17, e_X9_endRoads_21n, e_X9_endRoads_21, e_X9_endRoads_24, e_X9_endRoads_27, e_X9_endRoads_28, e_X9_endRoads_29, e_X9_endRoads_32, e_X9_endRoads_33, e_X9_endRoads_36, e_X9_endRoads_37, e_X9_endRoads_40, e_X9_endRoads_41, e_X9_endRoads_44, e_X9_endRoads_47, e_X9_endRoads_48, e_X9_endRoads_49, e_X9_endRoads_50, e_X9_endRoads_56, e_X9_endRoads_59, e_X9_endRoads_62, cO_0 hY, cg_0_0 hY, cO_30 hY, cg_30_4 hY, cO_31 hY, cg_31_0 hY, cO_32 hY, cg_32_0 hY, cg_31_2 hY, cg_32_2 hY, cg_0_10 hY, rP_n, rS_n, xrd_rP, xrd_rS, xfit_rP, xfit_rS, xcat_rP, xcat_rS, nem, su_get, z1e0, z2e0, z3e0, z4e0, z5e0, z0e1, zme0, Nat.reduceEqDiff, not_true_eq_false, and_self, false_or, or_false, or_self,  bI_eq0, bI_eq1, i10, i20, i30, i00, ne_eq, Decidable.not_not, true_and, and_true, false_and, and_false, xrd_ref, xrd_null, xrd_rf, xid_int, xcat_int, xcat_ref, xcat_null, xcat_long, xcat_rf, xfit_int, xfit_0, xfit_1, xfit_ref, xfit_null, xfit_rf, not_false_eq_true, ↓reduceIte, z01_0, z01_1, bI_01, true_or, or_true, c_X9_endRoads_7 (cO_1 hY) k1, h2, rdS]
  | succ f ih =>
    intro p s o a2 hp hz hP hH hcam hrod hab
    have hY := hz.1
    have hP60 := hY.2.2.2.2.2.1.1
    have k1 := ps_size (g := g) (A := A) (s := s) hz hP
    have h2 : ¬ nI P ≤ nI p := nI_ge (by omega) (by omega)
    have hpP : p < P := by omega
    have k2 := ps_get (g := g) (A := A) (s := s) hz hP hpP
    rw [rdS]
    by_cases a : s 8 p = 3
    · have er := hrod p hpP a
      by_cases b : s 14 p ≤ nI H
      · have b' : ¬ nI H < s 14 p := Int32.not_lt.mpr b
        have n2 : ¬ s 8 p = 2 := by rw [a]; decide
        have k3 := cd_stayAt (g := g) (s := s) (o := o) (a := 0) (t := s 1 0) hY hpP
        have e13 : su (su s 8 p 0) 13 p (-1) = su s 8 p 0 := su_same _ (by rw [su_other _ _ (by decide)]; exact hab p hpP n2)
        rw [e13, hH] at k3
        rw [if_pos ⟨a, b⟩]
        obtain ⟨o1, r1, r2, r3, r4⟩ := ih (p + 1) (su s 8 p 0) (su o 64 p (nI H)) (some (.ref (A 31 p))) (by omega) (zo_o hz (su_other _ _ (by decide)) (su_other _ _ (by decide)) (su_other _ _ (by decide)) (fun j => su_other _ _ (by decide)) (fun j => su_other _ _ (by decide)) (fun j => su_other _ _ (by decide))) (by rw [su_other _ _ (by decide)]; exact hP) (by rw [su_other _ _ (by decide)]; exact hH) (fun q hq h8 => by
          rw [su_get] at h8
          by_cases w : q = p
          · rw [if_pos ⟨rfl, w⟩] at h8; exact absurd h8 (by decide)
          · rw [if_neg (fun z => w z.2)] at h8
            rw [su_get, if_neg (fun z => w z.2), su_other _ _ (by decide)]
            exact hcam q hq h8) (fun q hq h8 => by
          rw [su_get] at h8
          by_cases w : q = p
          · rw [if_pos ⟨rfl, w⟩] at h8; exact absurd h8 (by decide)
          · rw [if_neg (fun z => w z.2)] at h8
            rw [su_other _ _ (by decide), su_other _ _ (by decide)]
            exact hrod q hq h8) (fun q hq h8 => by
          rw [su_other _ _ (by decide)]
          by_cases w : q = p
          · rw [w]; exact hab p hpP n2
          · rw [su_get, if_neg (fun z => w z.2)] at h8
            exact hab q hq h8)
        refine ⟨o1, fun F j h => (r1 F j h).trans (su_other _ _ h), r2, r3, ?_⟩
        rw [e_X9_endRoads_2 rfl]
        simp only [e_X9_endRoads_3, e_X9_endRoads_4, e_X9_endRoads_10, e_X9_endRoads_13, e_X9_endRoads_14, e_X9_endRoads_17, e_X9_endRoads_21n, e_X9_endRoads_21, e_X9_endRoads_24, e_X9_endRoads_27, e_X9_endRoads_28, e_X9_endRoads_29, e_X9_endRoads_32, e_X9_endRoads_33, e_X9_endRoads_36, e_X9_endRoads_37, e_X9_endRoads_40, e_X9_endRoads_41, e_X9_endRoads_44, e_X9_endRoads_47, e_X9_endRoads_48, e_X9_endRoads_49, e_X9_endRoads_50, e_X9_endRoads_56, e_X9_endRoads_59, e_X9_endRoads_62, cO_0 hY, cg_0_0 hY, cO_30 hY, cg_30_4 hY, cO_31 hY, cg_31_0 hY, cO_32 hY, cg_32_0 hY, cg_31_2 hY, cg_32_2 hY, cg_0_10 hY, rP_n, rS_n, xrd_rP, xrd_rS, xfit_rP, xfit_rS, xcat_rP, xcat_rS, nem, su_get, z1e0, z2e0, z3e0, z4e0, z5e0, z0e1, zme0, Nat.reduceEqDiff, not_true_eq_false, and_self, false_or, or_false, or_self,  bI_eq0, bI_eq1, i10, i20, i30, i00, ne_eq, Decidable.not_not, true_and, and_true, false_and, and_false, xrd_ref, xrd_null, xrd_rf, xid_int, xcat_int, xcat_ref, xcat_null, xcat_long, xcat_rf, xfit_int, xfit_0, xfit_1, xfit_ref, xfit_null, xfit_rf, not_false_eq_true, ↓reduceIte, z01_0, z01_1, bI_01, true_or, or_true, c_X9_endRoads_7 (cO_1 hY) k1, c_X9_endRoads_18 (cO_1 hY) k2, c_X9_endRoads_53 (cO_31 hY hpP) k3, h2, hpP, a, er, hH, b', nI_1]
        exact r4
      · have b' : nI H < s 14 p := Int32.not_le.mp b
        rw [if_neg (fun q => b q.2)]
        obtain ⟨o1, r1, r2, r3, r4⟩ := ih (p + 1) s o (some (.ref (A 31 p))) (by omega) hz hP hH hcam hrod hab
        refine ⟨o1, r1, r2, r3, ?_⟩
        rw [e_X9_endRoads_2 rfl]
        simp only [e_X9_endRoads_3, e_X9_endRoads_4, e_X9_endRoads_10, e_X9_endRoads_13, e_X9_endRoads_14, e_X9_endRoads_17, e_X9_endRoads_21n, e_X9_endRoads_21, e_X9_endRoads_24, e_X9_endRoads_27, e_X9_endRoads_28, e_X9_endRoads_29, e_X9_endRoads_32, e_X9_endRoads_33, e_X9_endRoads_36, e_X9_endRoads_37, e_X9_endRoads_40, e_X9_endRoads_41, e_X9_endRoads_44, e_X9_endRoads_47, e_X9_endRoads_48, e_X9_endRoads_49, e_X9_endRoads_50, e_X9_endRoads_56, e_X9_endRoads_59, e_X9_endRoads_62, cO_0 hY, cg_0_0 hY, cO_30 hY, cg_30_4 hY, cO_31 hY, cg_31_0 hY, cO_32 hY, cg_32_0 hY, cg_31_2 hY, cg_32_2 hY, cg_0_10 hY, rP_n, rS_n, xrd_rP, xrd_rS, xfit_rP, xfit_rS, xcat_rP, xcat_rS, nem, su_get, z1e0, z2e0, z3e0, z4e0, z5e0, z0e1, zme0, Nat.reduceEqDiff, not_true_eq_false, and_self, false_or, or_false, or_self,  bI_eq0, bI_eq1, i10, i20, i30, i00, ne_eq, Decidable.not_not, true_and, and_true, false_and, and_false, xrd_ref, xrd_null, xrd_rf, xid_int, xcat_int, xcat_ref, xcat_null, xcat_long, xcat_rf, xfit_int, xfit_0, xfit_1, xfit_ref, xfit_null, xfit_rf, not_false_eq_true, ↓reduceIte, z01_0, z01_1, bI_01, true_or, or_true, c_X9_endRoads_7 (cO_1 hY) k1, c_X9_endRoads_18 (cO_1 hY) k2, h2, hpP, a, er, hH, b', nI_1]
        exact r4
    · rw [if_neg (fun q => a q.1)]
      obtain ⟨o1, r1, r2, r3, r4⟩ := ih (p + 1) s o (some (.ref (A 31 p))) (by omega) hz hP hH hcam hrod hab
      refine ⟨o1, r1, r2, r3, ?_⟩
      rw [e_X9_endRoads_2 rfl]
      simp only [e_X9_endRoads_3, e_X9_endRoads_4, e_X9_endRoads_10, e_X9_endRoads_13, e_X9_endRoads_14, e_X9_endRoads_17, e_X9_endRoads_21n, e_X9_endRoads_21, e_X9_endRoads_24, e_X9_endRoads_27, e_X9_endRoads_28, e_X9_endRoads_29, e_X9_endRoads_32, e_X9_endRoads_33, e_X9_endRoads_36, e_X9_endRoads_37, e_X9_endRoads_40, e_X9_endRoads_41, e_X9_endRoads_44, e_X9_endRoads_47, e_X9_endRoads_48, e_X9_endRoads_49, e_X9_endRoads_50, e_X9_endRoads_56, e_X9_endRoads_59, e_X9_endRoads_62, cO_0 hY, cg_0_0 hY, cO_30 hY, cg_30_4 hY, cO_31 hY, cg_31_0 hY, cO_32 hY, cg_32_0 hY, cg_31_2 hY, cg_32_2 hY, cg_0_10 hY, rP_n, rS_n, xrd_rP, xrd_rS, xfit_rP, xfit_rS, xcat_rP, xcat_rS, nem, su_get, z1e0, z2e0, z3e0, z4e0, z5e0, z0e1, zme0, Nat.reduceEqDiff, not_true_eq_false, and_self, false_or, or_false, or_self,  bI_eq0, bI_eq1, i10, i20, i30, i00, ne_eq, Decidable.not_not, true_and, and_true, false_and, and_false, xrd_ref, xrd_null, xrd_rf, xid_int, xcat_int, xcat_ref, xcat_null, xcat_long, xcat_rf, xfit_int, xfit_0, xfit_1, xfit_ref, xfit_null, xfit_rf, not_false_eq_true, ↓reduceIte, z01_0, z01_1, bI_01, true_or, or_true, c_X9_endRoads_7 (cO_1 hY) k1, c_X9_endRoads_18 (cO_1 hY) k2, h2, hpP, a, nI_1]
      exact r4
theorem cd_roads {H : Nat} {a2 : Option Value} (hz : zo g A z o P S) (hP : s 2 0 = nI P) (hH : s 1 0 = nI H) (hcam : cam s o P) (hrod : rod s o P) (hab : abn s P) : ∃ o', (∀ F j, F ≠ 64 → o' F j = o F j) ∧ cam (rdS H P 0 s) o' P ∧ abn (rdS H P 0 s) P ∧ Ev g 103 0 [some (.ref (A 0 0)), none, a2] [] (cp A z s o) (.inl none, cp A z (rdS H P 0 s) o') := by
  obtain ⟨o1, r1, r2, r3, r4⟩ := lp_croads (g := g) (A := A) (z := z) (P := P) (S := S) P 0 s o a2 (by omega) hz hP hH hcam hrod hab
  rw [nI_0] at r4
  refine ⟨o1, r1, r2, r3, ?_⟩
  simp only [e_X9_endRoads_0, e_X9_endRoads_1, nem, su_get, z1e0, z2e0, z3e0, z4e0, z5e0, z0e1, zme0, Nat.reduceEqDiff, not_true_eq_false, and_self, false_or, or_false, or_self,  bI_eq0, bI_eq1, i10, i20, i30, i00, ne_eq, Decidable.not_not, true_and, and_true, false_and, and_false, xrd_ref, xrd_null, xrd_rf, xid_int, xcat_int, xcat_ref, xcat_null, xcat_long, xcat_rf, xfit_int, xfit_0, xfit_1, xfit_ref, xfit_null, xfit_rf, not_false_eq_true, ↓reduceIte, z01_0, z01_1, bI_01, true_or, or_true]
  exact r4
/-! the list -/
theorem ze_63' {z' : zT} (hz : zo g A z o P S) (h : zle g A z z' P S) (ho : ∀ F j, F ≠ 63 → o' F j = o F j) : ze g A P S z o z' o' := by
  obtain ⟨a1, a2, a3, a4, a5⟩ := hz
  have m := h.2.2.2.2
  refine ⟨⟨h.1, ⟨Nat.le_trans a2.1 (m 0), Nat.le_trans a2.2 (m 1)⟩, ⟨by rw [ho _ _ (by decide)]; exact a3.1, Nat.le_trans a3.2.1 (m 2), fun j hj => by rw [ho _ _ (by decide)]; exact a3.2.2 j hj⟩, ?_, ?_⟩, h, fun F j x _ _ => ho F j x⟩
  · obtain ⟨K, k1, k2, k3, k4⟩ := a4
    exact ⟨K, k1, by rw [ho _ _ (by decide)]; exact k2, Nat.le_trans k3 (m 4), fun j hj => by rw [ho _ _ (by decide)]; exact k4 j hj⟩
  · obtain ⟨K, k1, k2, k3, k4⟩ := a5
    exact ⟨K, k1, by rw [ho _ _ (by decide)]; exact k2, Nat.le_trans k3 (m 5), fun j hj => by rw [ho _ _ (by decide)]; exact k4 j hj⟩
theorem lp_clist {H : Nat} : ∀ (f p L : Nat) (z : zT) (s o : mS) (a2 a3 : Option Value), p + f = P → zo g A z o P S → s 2 0 = nI P → s 1 0 = nI H → lOK s P L → L ≤ z.1.2.2 3 → ∃ z' o' L', ze g A P S z o z' o' ∧ (∀ F j, F ≠ 63 → o' F j = o F j) ∧ lOK (lsS H f p s) P L' ∧ L' ≤ z'.1.2.2 3 ∧ Ev g 104 2 [some (.ref (A 0 0)), some (.int (nI p)), a2, a3] [] (cp A z s o) (.inl none, cp A z' (lsS H f p s) o') := by
  intro f
  induction f with
  | zero =>
    intro p L z s o a2 a3 hp hz hP hH hl hc
    have hY := hz.1
    have hP60 := hY.2.2.2.2.2.1.1
    have k1 := ps_size (g := g) (A := A) (s := s) hz hP
    have h2 : nI P ≤ nI p := nI_le (by omega) (by omega)
    refine ⟨z, o, L, ze_refl hz, fun _ _ _ => rfl, hl, hc, ?_⟩
    simp only [e_X9_listTheRested_0, e_X9_listTheRested_1, e_X9_listTheRested_2, e_X9_listTheRested_3, e_X9_listTheRested_4, e_X9_listTheRested_10, e_X9_listTheRested_13, e_X9_listTheRested_14, e_X9_listTheRested_17, e_X9_listTheRested_21n, e_X9_listTheRested_21, e_X9_listTheRested_24, e_X9_listTheRested_25, e_X9_listTheRested_26, e_X9_listTheRested_29, e_X9_listTheRested_32, e_X9_listTheRested_35, e_X9_listTheRested_36, e_X9_listTheRested_39, e_X9_listTheRested_42, e_X9_listTheRested_43, e_X9_listTheRested_46, e_X9_listTheRested_47, e_X9_listTheRested_50, e_X9_listTheRested_51, e_X9_listTheRested_52, e_X9_listTheRested_53, e_X9_listTheRested_56, e_X9_listTheRested_57, e_X9_listTheRested_60, e_X9_listTheRested_63, e_X9_listTheRested_64, e_X9_listTheRested_67, e_X9_listTheRested_70, e_X9_listTheRested_71, e_X9_listTheRested_74, e_X9_listTheRested_78, e_X9_listTheRested_79, e_X9_listTheRested_82, e_X9_listTheRested_83, e_X9_listTheRested_86, e_X9_listTheRested_90, e_X9_listTheRested_93, e_X9_listTheRested_96, cO_0 hY, cg_0_0 hY, cO_30 hY, cg_30_4 hY, cO_31 hY, cg_31_0 hY, cO_32 hY, cg_32_0 hY, cg_31_3 hY, cg_32_3 hY, cg_0_10 hY, cg_0_6 hY, rP_n, rS_n, xrd_rP, xrd_rS, xfit_rP, xfit_rS, xcat_rP, xcat_rS, nem, su_get, z1e0, z2e0, z3e0, z4e0, z5e0, z0e1, zme0, Nat.reduceEqDiff, not_true_eq_false, and_self, false_or, or_false, or_self,  bI_eq0, bI_eq1, i10, i20, i30, i00, ne_eq, Decidable.not_not, true_and, and_true, false_and, and_false, xrd_ref, xrd_null, xrd_rf, xid_int, xcat_int, xcat_ref, xcat_null, xcat_long, xcat_rf, xfit_int, xfit_0, xfit_1, xfit_ref, xfit_null, xfit_rf, not_false_eq_true, ↓reduceIte, z01_0, z01_1, bI_01, true_or, or_true, c_X9_listTheRested_7 (cO_1 hY) k1, h2, lsS]
  | succ f ih =>
    intro p L z s o a2 a3 hp hz hP hH hl hc
    have hY := hz.1
    have hP60 := hY.2.2.2.2.2.1.1
    have k1 := ps_size (g := g) (A := A) (s := s) hz hP
    have h2 : ¬ nI P ≤ nI p := nI_ge (by omega) (by omega)
    have hpP : p < P := by omega
    have k2 := ps_get (g := g) (A := A) (s := s) hz hP hpP
    have k3 := cd_placeOf (g := g) (s := s) (o := o) (a2 := none) hY hl hc hpP
    rw [lsS, nL_eq hl hP60]
    have hf : ∀ {out : xR}, Ev g 104 2 [some (.ref (A 0 0)), some (.int (nI p)), a2, a3] [] (cp A z s o) out = Ev g 104 52 [some (.ref (A 0 0)), some (.int (nI p)), some (.ref (A 30 p)), some (.int (bI (s 8 p = 0 ∨ s 8 p = 1)))] [] (cp A z s o) out := by
      intro out
      rw [e_X9_listTheRested_2 rfl]
      by_cases a : s 8 p = 0
      · simp only [e_X9_listTheRested_3, e_X9_listTheRested_4, e_X9_listTheRested_10, e_X9_listTheRested_13, e_X9_listTheRested_14, e_X9_listTheRested_17, e_X9_listTheRested_21n, e_X9_listTheRested_21, e_X9_listTheRested_24, e_X9_listTheRested_25, e_X9_listTheRested_26, e_X9_listTheRested_29, e_X9_listTheRested_32, e_X9_listTheRested_35, e_X9_listTheRested_36, e_X9_listTheRested_39, e_X9_listTheRested_42, e_X9_listTheRested_43, e_X9_listTheRested_46, e_X9_listTheRested_47, e_X9_listTheRested_50, e_X9_listTheRested_51, cO_0 hY, cg_0_0 hY, cO_30 hY, cg_30_4 hY, cO_31 hY, cg_31_0 hY, cO_32 hY, cg_32_0 hY, cg_31_3 hY, cg_32_3 hY, cg_0_10 hY, cg_0_6 hY, rP_n, rS_n, xrd_rP, xrd_rS, xfit_rP, xfit_rS, xcat_rP, xcat_rS, nem, su_get, z1e0, z2e0, z3e0, z4e0, z5e0, z0e1, zme0, Nat.reduceEqDiff, not_true_eq_false, and_self, false_or, or_false, or_self,  bI_eq0, bI_eq1, i10, i20, i30, i00, ne_eq, Decidable.not_not, true_and, and_true, false_and, and_false, xrd_ref, xrd_null, xrd_rf, xid_int, xcat_int, xcat_ref, xcat_null, xcat_long, xcat_rf, xfit_int, xfit_0, xfit_1, xfit_ref, xfit_null, xfit_rf, not_false_eq_true, ↓reduceIte, z01_0, z01_1, bI_01, true_or, or_true, c_X9_listTheRested_7 (cO_1 hY) k1, c_X9_listTheRested_18 (cO_1 hY) k2, h2, hpP, a, bI]
      · by_cases b : s 8 p = 1 <;> simp only [e_X9_listTheRested_3, e_X9_listTheRested_4, e_X9_listTheRested_10, e_X9_listTheRested_13, e_X9_listTheRested_14, e_X9_listTheRested_17, e_X9_listTheRested_21n, e_X9_listTheRested_21, e_X9_listTheRested_24, e_X9_listTheRested_25, e_X9_listTheRested_26, e_X9_listTheRested_29, e_X9_listTheRested_32, e_X9_listTheRested_35, e_X9_listTheRested_36, e_X9_listTheRested_39, e_X9_listTheRested_42, e_X9_listTheRested_43, e_X9_listTheRested_46, e_X9_listTheRested_47, e_X9_listTheRested_50, e_X9_listTheRested_51, cO_0 hY, cg_0_0 hY, cO_30 hY, cg_30_4 hY, cO_31 hY, cg_31_0 hY, cO_32 hY, cg_32_0 hY, cg_31_3 hY, cg_32_3 hY, cg_0_10 hY, cg_0_6 hY, rP_n, rS_n, xrd_rP, xrd_rS, xfit_rP, xfit_rS, xcat_rP, xcat_rS, nem, su_get, z1e0, z2e0, z3e0, z4e0, z5e0, z0e1, zme0, Nat.reduceEqDiff, not_true_eq_false, and_self, false_or, or_false, or_self,  bI_eq0, bI_eq1, i10, i20, i30, i00, ne_eq, Decidable.not_not, true_and, and_true, false_and, and_false, xrd_ref, xrd_null, xrd_rf, xid_int, xcat_int, xcat_ref, xcat_null, xcat_long, xcat_rf, xfit_int, xfit_0, xfit_1, xfit_ref, xfit_null, xfit_rf, not_false_eq_true, ↓reduceIte, z01_0, z01_1, bI_01, true_or, or_true, c_X9_listTheRested_7 (cO_1 hY) k1, c_X9_listTheRested_18 (cO_1 hY) k2, h2, hpP, a, b, bI]
    by_cases a : s 8 p = 0 ∨ s 8 p = 1
    · by_cases b : s 10 p ≤ nI H
      · have b' : ¬ nI H < s 10 p := Int32.not_lt.mpr b
        by_cases c : pl s (nI p) L 0 = -1
        · rw [if_pos ⟨a, b, c⟩]
          obtain ⟨z1, q1, q2, q3⟩ := cd_append (g := g) (s := s) (o := o) hY hl hc hpP
          have hn : ¬ inL s L (nI p) := fun q => (inL_iff hl hP60).mp q c
          have zz := ze_63' hz q1 (fun F j h => mc_o o 3 h j)
          obtain ⟨z2, o2, L2, r1, r2, r3, r4, r5⟩ := ih (p + 1) (L + 1) z1 (apS s (nI p) L) (mc o 3) (some (.ref (A 30 p))) (some (.int 1)) (by omega) zz.1 (by rw [apS_o _ _ _ (by decide) (by decide)]; exact hP) (by rw [apS_o _ _ _ (by decide) (by decide)]; exact hH) (lOK_ap hP60 hl hpP hn) q2
          refine ⟨z2, o2, L2, ze_trans zz r1, fun F j h => (r2 F j h).trans (mc_o o 3 h j), r3, r4, ?_⟩
          rw [hf]
          have b1 : bI (s 8 p = 0 ∨ s 8 p = 1) = 1 := by simp only [bI, a, if_true]
          rw [b1]
          simp only [e_X9_listTheRested_52, e_X9_listTheRested_53, e_X9_listTheRested_56, e_X9_listTheRested_57, e_X9_listTheRested_60, e_X9_listTheRested_63, e_X9_listTheRested_64, e_X9_listTheRested_67, e_X9_listTheRested_70, e_X9_listTheRested_71, e_X9_listTheRested_74, e_X9_listTheRested_78, e_X9_listTheRested_79, e_X9_listTheRested_82, e_X9_listTheRested_83, e_X9_listTheRested_86, e_X9_listTheRested_90, e_X9_listTheRested_93, e_X9_listTheRested_96, cO_0 hY, cg_0_0 hY, cO_30 hY, cg_30_4 hY, cO_31 hY, cg_31_0 hY, cO_32 hY, cg_32_0 hY, cg_31_3 hY, cg_32_3 hY, cg_0_10 hY, cg_0_6 hY, rP_n, rS_n, xrd_rP, xrd_rS, xfit_rP, xfit_rS, xcat_rP, xcat_rS, nem, su_get, z1e0, z2e0, z3e0, z4e0, z5e0, z0e1, zme0, Nat.reduceEqDiff, not_true_eq_false, and_self, false_or, or_false, or_self,  bI_eq0, bI_eq1, i10, i20, i30, i00, ne_eq, Decidable.not_not, true_and, and_true, false_and, and_false, xrd_ref, xrd_null, xrd_rf, xid_int, xcat_int, xcat_ref, xcat_null, xcat_long, xcat_rf, xfit_int, xfit_0, xfit_1, xfit_ref, xfit_null, xfit_rf, not_false_eq_true, ↓reduceIte, z01_0, z01_1, bI_01, true_or, or_true, c_X9_listTheRested_75 _ (cO_19 hY) k3, c_X9_listTheRested_87 _ (cO_19 hY) q3, hpP, hH, b', c, nI_1]
          exact r5
        · rw [if_neg (fun q => c q.2.2)]
          obtain ⟨z2, o2, L2, r1, r2, r3, r4, r5⟩ := ih (p + 1) L z s o (some (.ref (A 30 p))) (some (.int 1)) (by omega) hz hP hH hl hc
          refine ⟨z2, o2, L2, r1, r2, r3, r4, ?_⟩
          rw [hf]
          have b1 : bI (s 8 p = 0 ∨ s 8 p = 1) = 1 := by simp only [bI, a, if_true]
          rw [b1]
          simp only [e_X9_listTheRested_52, e_X9_listTheRested_53, e_X9_listTheRested_56, e_X9_listTheRested_57, e_X9_listTheRested_60, e_X9_listTheRested_63, e_X9_listTheRested_64, e_X9_listTheRested_67, e_X9_listTheRested_70, e_X9_listTheRested_71, e_X9_listTheRested_74, e_X9_listTheRested_78, e_X9_listTheRested_79, e_X9_listTheRested_82, e_X9_listTheRested_83, e_X9_listTheRested_86, e_X9_listTheRested_90, e_X9_listTheRested_93, e_X9_listTheRested_96, cO_0 hY, cg_0_0 hY, cO_30 hY, cg_30_4 hY, cO_31 hY, cg_31_0 hY, cO_32 hY, cg_32_0 hY, cg_31_3 hY, cg_32_3 hY, cg_0_10 hY, cg_0_6 hY, rP_n, rS_n, xrd_rP, xrd_rS, xfit_rP, xfit_rS, xcat_rP, xcat_rS, nem, su_get, z1e0, z2e0, z3e0, z4e0, z5e0, z0e1, zme0, Nat.reduceEqDiff, not_true_eq_false, and_self, false_or, or_false, or_self,  bI_eq0, bI_eq1, i10, i20, i30, i00, ne_eq, Decidable.not_not, true_and, and_true, false_and, and_false, xrd_ref, xrd_null, xrd_rf, xid_int, xcat_int, xcat_ref, xcat_null, xcat_long, xcat_rf, xfit_int, xfit_0, xfit_1, xfit_ref, xfit_null, xfit_rf, not_false_eq_true, ↓reduceIte, z01_0, z01_1, bI_01, true_or, or_true, c_X9_listTheRested_75 _ (cO_19 hY) k3, hpP, hH, b', c, nI_1]
          exact r5
      · have b' : nI H < s 10 p := Int32.not_le.mp b
        rw [if_neg (fun q => b q.2.1)]
        obtain ⟨z2, o2, L2, r1, r2, r3, r4, r5⟩ := ih (p + 1) L z s o (some (.ref (A 30 p))) (some (.int 1)) (by omega) hz hP hH hl hc
        refine ⟨z2, o2, L2, r1, r2, r3, r4, ?_⟩
        rw [hf]
        have b1 : bI (s 8 p = 0 ∨ s 8 p = 1) = 1 := by simp only [bI, a, if_true]
        rw [b1]
        simp only [e_X9_listTheRested_52, e_X9_listTheRested_53, e_X9_listTheRested_56, e_X9_listTheRested_57, e_X9_listTheRested_60, e_X9_listTheRested_63, e_X9_listTheRested_64, e_X9_listTheRested_67, e_X9_listTheRested_70, e_X9_listTheRested_71, e_X9_listTheRested_74, e_X9_listTheRested_78, e_X9_listTheRested_79, e_X9_listTheRested_82, e_X9_listTheRested_83, e_X9_listTheRested_86, e_X9_listTheRested_90, e_X9_listTheRested_93, e_X9_listTheRested_96, cO_0 hY, cg_0_0 hY, cO_30 hY, cg_30_4 hY, cO_31 hY, cg_31_0 hY, cO_32 hY, cg_32_0 hY, cg_31_3 hY, cg_32_3 hY, cg_0_10 hY, cg_0_6 hY, rP_n, rS_n, xrd_rP, xrd_rS, xfit_rP, xfit_rS, xcat_rP, xcat_rS, nem, su_get, z1e0, z2e0, z3e0, z4e0, z5e0, z0e1, zme0, Nat.reduceEqDiff, not_true_eq_false, and_self, false_or, or_false, or_self,  bI_eq0, bI_eq1, i10, i20, i30, i00, ne_eq, Decidable.not_not, true_and, and_true, false_and, and_false, xrd_ref, xrd_null, xrd_rf, xid_int, xcat_int, xcat_ref, xcat_null, xcat_long, xcat_rf, xfit_int, xfit_0, xfit_1, xfit_ref, xfit_null, xfit_rf, not_false_eq_true, ↓reduceIte, z01_0, z01_1, bI_01, true_or, or_true, hpP, hH, b', nI_1]
        exact r5
    · rw [if_neg (fun q => a q.1)]
      obtain ⟨z2, o2, L2, r1, r2, r3, r4, r5⟩ := ih (p + 1) L z s o (some (.ref (A 30 p))) (some (.int 0)) (by omega) hz hP hH hl hc
      refine ⟨z2, o2, L2, r1, r2, r3, r4, ?_⟩
      rw [hf]
      have b1 : bI (s 8 p = 0 ∨ s 8 p = 1) = 0 := by simp only [bI, a, if_false]
      rw [b1]
      simp only [e_X9_listTheRested_52, e_X9_listTheRested_53, e_X9_listTheRested_56, e_X9_listTheRested_57, e_X9_listTheRested_60, e_X9_listTheRested_63, e_X9_listTheRested_64, e_X9_listTheRested_67, e_X9_listTheRested_70, e_X9_listTheRested_71, e_X9_listTheRested_74, e_X9_listTheRested_78, e_X9_listTheRested_79, e_X9_listTheRested_82, e_X9_listTheRested_83, e_X9_listTheRested_86, e_X9_listTheRested_90, e_X9_listTheRested_93, e_X9_listTheRested_96, nem, su_get, z1e0, z2e0, z3e0, z4e0, z5e0, z0e1, zme0, Nat.reduceEqDiff, not_true_eq_false, and_self, false_or, or_false, or_self,  bI_eq0, bI_eq1, i10, i20, i30, i00, ne_eq, Decidable.not_not, true_and, and_true, false_and, and_false, xrd_ref, xrd_null, xrd_rf, xid_int, xcat_int, xcat_ref, xcat_null, xcat_long, xcat_rf, xfit_int, xfit_0, xfit_1, xfit_ref, xfit_null, xfit_rf, not_false_eq_true, ↓reduceIte, z01_0, z01_1, bI_01, true_or, or_true, nI_1]
      exact r5
theorem cd_list2 {H L : Nat} {a2 a3 : Option Value} (hz : zo g A z o P S) (hP : s 2 0 = nI P) (hH : s 1 0 = nI H) (hl : lOK s P L) (hc : L ≤ z.1.2.2 3) : ∃ z' o' L', ze g A P S z o z' o' ∧ (∀ F j, F ≠ 63 → o' F j = o F j) ∧ lOK (lsS H P 0 s) P L' ∧ L' ≤ z'.1.2.2 3 ∧ Ev g 104 0 [some (.ref (A 0 0)), none, a2, a3] [] (cp A z s o) (.inl none, cp A z' (lsS H P 0 s) o') := by
  obtain ⟨z2, o2, L2, r1, r2, r3, r4, r5⟩ := lp_clist (g := g) (A := A) (P := P) (S := S) P 0 L z s o a2 a3 (by omega) hz hP hH hl hc
  rw [nI_0] at r5
  refine ⟨z2, o2, L2, r1, r2, r3, r4, ?_⟩
  simp only [e_X9_listTheRested_0, e_X9_listTheRested_1, nem, su_get, z1e0, z2e0, z3e0, z4e0, z5e0, z0e1, zme0, Nat.reduceEqDiff, not_true_eq_false, and_self, false_or, or_false, or_self,  bI_eq0, bI_eq1, i10, i20, i30, i00, ne_eq, Decidable.not_not, true_and, and_true, false_and, and_false, xrd_ref, xrd_null, xrd_rf, xid_int, xcat_int, xcat_ref, xcat_null, xcat_long, xcat_rf, xfit_int, xfit_0, xfit_1, xfit_ref, xfit_null, xfit_rf, not_false_eq_true, ↓reduceIte, z01_0, z01_1, bI_01, true_or, or_true]
  exact r5
end CN
