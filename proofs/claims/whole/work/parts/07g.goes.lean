/-! ===== the class: a ship goes ===== -/
section CG2
variable {g : Nat × Nat × Nat} {A : Nat → Nat → Nat} {z : zT} {s o s' o' : mS} {P S : Nat}
theorem cp_9 (hY : zok g A z P S) (h : ∀ F j, F ≠ 9 → s' F j = s F j) : cp A z s' o = cp A z s o := by
  refine cp_congr (fun F j e => h F j ?_) (fun _ _ _ => rfl) hY
  rintro rfl
  exact e rfl
theorem cd_board {x L : Nat} {v t : Int32} (hY : zok g A z P S) (hl : lOK s P L) (hc : L ≤ z.1.2.2 3) (hx : x < S) (hv : inL s L v) : Ev g 96 0 [some (.ref (A 0 0)), some (.ref (A 34 x)), some (rP A v)] [] (cp A z s o) (.inl none, cp A z (bd s v x t) (mc o 3)) := by
  have h6 := hY.2.2.2.2.2.1.1
  have hLP := hl.2.1
  obtain ⟨p, hp, rfl⟩ := inL_p hl hv
  obtain ⟨K, hK, e1, e2⟩ := inL_pl hv
  have cp_ : (nI p).toNatClampNeg = p := nI_clamp (by omega)
  have cK : (nI K).toNatClampNeg = K := nI_clamp (by omega)
  have k1 := cd_needs (g := g) (s := s) (o := o) hY hp hx
  rw [rP_r (by omega)]
  unfold bd f_boards
  rw [nL_eq hl h6, e1, cK, cp_]
  by_cases q : ¬ s 20 x = 0 ∧ s 8 p = 0
  · have e17 : ∀ j, su s 49 0 (s 49 0 - 1) 17 j = s 17 j := fun j => su_other _ _ (by decide)
    have k2 := cd_takeOut (g := g) (s := su s 49 0 (s 49 0 - 1)) (o := o) (K := K) (a2 := none) hY (lOK_o hl e17 (su_other _ _ (by decide))) hc hp (by rw [pl_o s _ e17]; exact e1) hK
    have k3 := cd_goAboard (g := g) (s := su (tkS (su s 49 0 (s 49 0 - 1)) (L - 1 - K) K) 18 0 (nI (L - 1))) (o := mc o 3) hY hp hx
    have fin : cp A z (su (su (su (tkS (b0S s p x t) (L - 1 - K) K) 18 0 (nI (L - 1))) 8 p 2) 13 p (nI x)) (mc o 3) = cp A z (su (su (su (tkS (su s 49 0 (s 49 0 - 1)) (L - 1 - K) K) 18 0 (nI (L - 1))) 8 p 2) 13 p (nI x)) (mc o 3) := by
      refine cp_9 hY (fun F j h => ?_)
      simp only [su_get]
      have : tkS (b0S s p x t) (L - 1 - K) K F j = tkS (su s 49 0 (s 49 0 - 1)) (L - 1 - K) K F j := by
        by_cases f : F = 17
        · subst f
          rw [tkS_17, tkS_17]
          simp only [b0S, q, if_true, su_get, not_false_eq_true, and_self, and_true]
          simp
        · rw [tkS_o _ f, tkS_o _ f]
          simp only [b0S, q, if_true, su_get, not_false_eq_true, and_self, and_true, h, false_and, if_false]
      rw [this]
    rw [fin]
    simp only [e_X9_board_0, e_X9_board_1n, e_X9_board_1, e_X9_board_4, e_X9_board_5, e_X9_board_6, e_X9_board_10, e_X9_board_13, e_X9_board_14, e_X9_board_15, e_X9_board_18, e_X9_board_19, e_X9_board_20, e_X9_board_23, e_X9_board_24, e_X9_board_27, e_X9_board_31, e_X9_board_32, e_X9_board_35, e_X9_board_39, cO_0 hY, cg_0_12 hY, hb_0 hY, cw_0_12 hY, cg_0_6 hY, cO_30 hY, cg_30_4 hY, rP_n, rS_n, xrd_rP, xrd_rS, xfit_rP, xfit_rS, xcat_rP, xcat_rS, nem, su_get, z1e0, z2e0, z3e0, z4e0, z5e0, z0e1, zme0, Nat.reduceEqDiff, not_true_eq_false, and_self, false_or, or_false, or_self,  bI_eq0, bI_eq1, i10, i20, i30, i00, ne_eq, Decidable.not_not, true_and, and_true, false_and, and_false, xrd_ref, xrd_null, xrd_rf, xid_int, xcat_int, xcat_ref, xcat_null, xcat_long, xcat_rf, xfit_int, xfit_0, xfit_1, xfit_ref, xfit_null, xfit_rf, not_false_eq_true, ↓reduceIte, z01_0, z01_1, bI_01, true_or, or_true, c_X9_board_7 _ _ k1, c_X9_board_28 _ (cO_19 hY) k2, c_X9_board_36 _ (cO_31 hY hp) k3, q, hp]
  · have k2 := cd_takeOut (g := g) (s := s) (o := o) (K := K) (a2 := none) hY hl hc hp e1 hK
    have k3 := cd_goAboard (g := g) (s := su (tkS s (L - 1 - K) K) 18 0 (nI (L - 1))) (o := mc o 3) hY hp hx
    simp only [e_X9_board_0, e_X9_board_1n, e_X9_board_1, e_X9_board_4, e_X9_board_5, e_X9_board_6, e_X9_board_10, e_X9_board_13, e_X9_board_14, e_X9_board_15, e_X9_board_18, e_X9_board_19, e_X9_board_20, e_X9_board_23, e_X9_board_24, e_X9_board_27, e_X9_board_31, e_X9_board_32, e_X9_board_35, e_X9_board_39, cO_0 hY, cg_0_12 hY, hb_0 hY, cw_0_12 hY, cg_0_6 hY, cO_30 hY, cg_30_4 hY, rP_n, rS_n, xrd_rP, xrd_rS, xfit_rP, xfit_rS, xcat_rP, xcat_rS, nem, su_get, z1e0, z2e0, z3e0, z4e0, z5e0, z0e1, zme0, Nat.reduceEqDiff, not_true_eq_false, and_self, false_or, or_false, or_self,  bI_eq0, bI_eq1, i10, i20, i30, i00, ne_eq, Decidable.not_not, true_and, and_true, false_and, and_false, xrd_ref, xrd_null, xrd_rf, xid_int, xcat_int, xcat_ref, xcat_null, xcat_long, xcat_rf, xfit_int, xfit_0, xfit_1, xfit_ref, xfit_null, xfit_rf, not_false_eq_true, ↓reduceIte, z01_0, z01_1, bI_01, true_or, or_true, c_X9_board_7 _ _ k1, c_X9_board_28 _ (cO_19 hY) k2, c_X9_board_36 _ (cO_31 hY hp) k3, q, hp, b0S]
theorem cd_board0 {x : Nat} (hY : zok g A z P S) : Ev g 96 0 [some (.ref (A 0 0)), some (.ref (A 34 x)), some (rP A (-1))] [] (cp A z s o) (.inl none, cp A z s o) := by
  simp only [e_X9_board_0, e_X9_board_1n, e_X9_board_1, e_X9_board_4, e_X9_board_5, e_X9_board_6, e_X9_board_10, e_X9_board_13, e_X9_board_14, e_X9_board_15, e_X9_board_18, e_X9_board_19, e_X9_board_20, e_X9_board_23, e_X9_board_24, e_X9_board_27, e_X9_board_31, e_X9_board_32, e_X9_board_35, e_X9_board_39, cO_0 hY, cg_0_12 hY, hb_0 hY, cw_0_12 hY, cg_0_6 hY, cO_30 hY, cg_30_4 hY, rP_n, rS_n, xrd_rP, xrd_rS, xfit_rP, xfit_rS, xcat_rP, xcat_rS, nem, su_get, z1e0, z2e0, z3e0, z4e0, z5e0, z0e1, zme0, Nat.reduceEqDiff, not_true_eq_false, and_self, false_or, or_false, or_self,  bI_eq0, bI_eq1, i10, i20, i30, i00, ne_eq, Decidable.not_not, true_and, and_true, false_and, and_false, xrd_ref, xrd_null, xrd_rf, xid_int, xcat_int, xcat_ref, xcat_null, xcat_long, xcat_rf, xfit_int, xfit_0, xfit_1, xfit_ref, xfit_null, xfit_rf, not_false_eq_true, ↓reduceIte, z01_0, z01_1, bI_01, true_or, or_true]
theorem lp_cfind {x H L : Nat} (hY : zok g A z P S) (hx : x < S) (hH : H < 9600) (hl : lOK s P L) (hc : L ≤ z.1.2.2 3) : ∀ (f k : Nat) (a4 : Option Value), k + f = L → Ev g 97 2 [some (.ref (A 0 0)), some (.ref (A 34 x)), some (.int (nI H)), some (.int (nI k)), a4] [] (cp A z s o) (.inl (some (rP A (alS s x H f k))), cp A z s o) := by
  have h6 := hY.2.2.2.2.2.1.1
  have hLP := hl.2.1
  have k1 := cd_len (g := g) (s := s) (o := o) hY (l := 3) (by decide) (by decide)
  simp only [sz, hl.1] at k1
  have d := nI_d24 (show H < 2 ^ 31 by omega)
  intro f
  induction f with
  | zero =>
    intro k a4 hk
    have h2 : nI L ≤ nI k := nI_le (by omega) (by omega)
    simp only [e_X9_findLearner_0, e_X9_findLearner_1, e_X9_findLearner_2, e_X9_findLearner_3, e_X9_findLearner_4, e_X9_findLearner_10, e_X9_findLearner_13, e_X9_findLearner_14, e_X9_findLearner_17, e_X9_findLearner_21, e_X9_findLearner_23, e_X9_findLearner_25n, e_X9_findLearner_25, e_X9_findLearner_28, e_X9_findLearner_30, e_X9_findLearner_33, e_X9_findLearner_34, e_X9_findLearner_37, e_X9_findLearner_39, e_X9_findLearner_42, e_X9_findLearner_45, e_X9_findLearner_47, e_X9_findLearner_48, e_X9_findLearner_50, e_X9_findLearner_54, e_X9_findLearner_57, e_X9_findLearner_58, e_X9_findLearner_60, e_X9_findLearner_61, e_X9_findLearner_67, e_X9_findLearner_70, e_X9_findLearner_72, e_X9_findLearner_73, e_X9_findLearner_76, e_X9_findLearner_79, e_X9_findLearner_80, cO_0 hY, cg_0_6 hY, cO_30 hY, cg_30_1 hY, cg_30_8 hY, cg_0_12 hY, rP_n, rS_n, xrd_rP, xrd_rS, xfit_rP, xfit_rS, xcat_rP, xcat_rS, nem, su_get, z1e0, z2e0, z3e0, z4e0, z5e0, z0e1, zme0, Nat.reduceEqDiff, not_true_eq_false, and_self, false_or, or_false, or_self,  bI_eq0, bI_eq1, i10, i20, i30, i00, ne_eq, Decidable.not_not, true_and, and_true, false_and, and_false, xrd_ref, xrd_null, xrd_rf, xid_int, xcat_int, xcat_ref, xcat_null, xcat_long, xcat_rf, xfit_int, xfit_0, xfit_1, xfit_ref, xfit_null, xfit_rf, not_false_eq_true, ↓reduceIte, z01_0, z01_1, bI_01, true_or, or_true, c_X9_findLearner_7 (cO_19 hY) k1, h2, alS]
  | succ f ih =>
    intro k a4 hk
    have h2 : ¬ nI L ≤ nI k := nI_ge (by omega) (by omega)
    obtain ⟨p, hp, ep⟩ := hl.2.2.1 k (by omega)
    have cp_ : (nI p).toNatClampNeg = p := nI_clamp (by omega)
    have k2 := cd_at (g := g) (s := s) (o := o) (n := L) (i := k) hY (l := 3) (by decide) (by decide) hl.1 hc (by omega) (by simp only [nu, ep, cp_]; exact hp)
    simp only [nu, ep, cp_] at k2
    have k3 := cd_isOff (g := g) (s := s) (o := o) hY hp (show H / 24 < 400 by omega)
    have k4 := cd_canBe (g := g) (s := s) (o := o) (free := s 49 0) (a3 := none) hY hp hx
    have ih := fun a4 => ih (k + 1) a4 (by omega)
    have rp := rP_r (A := A) (show p < 2 ^ 31 by omega)
    rw [e_X9_findLearner_2 rfl]
    by_cases a : s 3 p = 2
    · by_cases dd : s 6 p = 0
      · simp only [e_X9_findLearner_0, e_X9_findLearner_1, e_X9_findLearner_3, e_X9_findLearner_4, e_X9_findLearner_10, e_X9_findLearner_13, e_X9_findLearner_14, e_X9_findLearner_17, e_X9_findLearner_21, e_X9_findLearner_23, e_X9_findLearner_25n, e_X9_findLearner_25, e_X9_findLearner_28, e_X9_findLearner_30, e_X9_findLearner_33, e_X9_findLearner_34, e_X9_findLearner_37, e_X9_findLearner_39, e_X9_findLearner_42, e_X9_findLearner_45, e_X9_findLearner_47, e_X9_findLearner_48, e_X9_findLearner_50, e_X9_findLearner_54, e_X9_findLearner_57, e_X9_findLearner_58, e_X9_findLearner_60, e_X9_findLearner_61, e_X9_findLearner_67, e_X9_findLearner_70, e_X9_findLearner_72, e_X9_findLearner_73, e_X9_findLearner_76, e_X9_findLearner_79, e_X9_findLearner_80, cO_0 hY, cg_0_6 hY, cO_30 hY, cg_30_1 hY, cg_30_8 hY, cg_0_12 hY, rP_n, rS_n, xrd_rP, xrd_rS, xfit_rP, xfit_rS, xcat_rP, xcat_rS, nem, su_get, z1e0, z2e0, z3e0, z4e0, z5e0, z0e1, zme0, Nat.reduceEqDiff, not_true_eq_false, and_self, false_or, or_false, or_self,  bI_eq0, bI_eq1, i10, i20, i30, i00, ne_eq, Decidable.not_not, true_and, and_true, false_and, and_false, xrd_ref, xrd_null, xrd_rf, xid_int, xcat_int, xcat_ref, xcat_null, xcat_long, xcat_rf, xfit_int, xfit_0, xfit_1, xfit_ref, xfit_null, xfit_rf, not_false_eq_true, ↓reduceIte, z01_0, z01_1, bI_01, true_or, or_true, c_X9_findLearner_7 (cO_19 hY) k1, c_X9_findLearner_18 (cO_19 hY) k2, h2, hp, a, dd, nI_1, alS, ep, cp_]
        exact ih _
      · by_cases b : s 7 (400 * p + H / 24) = 0
        · by_cases c : r_canBe s p x (s 49 0) = 0
          · simp only [e_X9_findLearner_0, e_X9_findLearner_1, e_X9_findLearner_3, e_X9_findLearner_4, e_X9_findLearner_10, e_X9_findLearner_13, e_X9_findLearner_14, e_X9_findLearner_17, e_X9_findLearner_21, e_X9_findLearner_23, e_X9_findLearner_25n, e_X9_findLearner_25, e_X9_findLearner_28, e_X9_findLearner_30, e_X9_findLearner_33, e_X9_findLearner_34, e_X9_findLearner_37, e_X9_findLearner_39, e_X9_findLearner_42, e_X9_findLearner_45, e_X9_findLearner_47, e_X9_findLearner_48, e_X9_findLearner_50, e_X9_findLearner_54, e_X9_findLearner_57, e_X9_findLearner_58, e_X9_findLearner_60, e_X9_findLearner_61, e_X9_findLearner_67, e_X9_findLearner_70, e_X9_findLearner_72, e_X9_findLearner_73, e_X9_findLearner_76, e_X9_findLearner_79, e_X9_findLearner_80, cO_0 hY, cg_0_6 hY, cO_30 hY, cg_30_1 hY, cg_30_8 hY, cg_0_12 hY, rP_n, rS_n, xrd_rP, xrd_rS, xfit_rP, xfit_rS, xcat_rP, xcat_rS, nem, su_get, z1e0, z2e0, z3e0, z4e0, z5e0, z0e1, zme0, Nat.reduceEqDiff, not_true_eq_false, and_self, false_or, or_false, or_self,  bI_eq0, bI_eq1, i10, i20, i30, i00, ne_eq, Decidable.not_not, true_and, and_true, false_and, and_false, xrd_ref, xrd_null, xrd_rf, xid_int, xcat_int, xcat_ref, xcat_null, xcat_long, xcat_rf, xfit_int, xfit_0, xfit_1, xfit_ref, xfit_null, xfit_rf, not_false_eq_true, ↓reduceIte, z01_0, z01_1, bI_01, true_or, or_true, c_X9_findLearner_7 (cO_19 hY) k1, c_X9_findLearner_18 (cO_19 hY) k2, c_X9_findLearner_51 (cO_30 hY hp) k3, c_X9_findLearner_64 _ _ k4, h2, hp, a, dd, b, c, d, n24, nI_1, alS, ep, cp_]
            exact ih _
          · simp only [e_X9_findLearner_0, e_X9_findLearner_1, e_X9_findLearner_3, e_X9_findLearner_4, e_X9_findLearner_10, e_X9_findLearner_13, e_X9_findLearner_14, e_X9_findLearner_17, e_X9_findLearner_21, e_X9_findLearner_23, e_X9_findLearner_25n, e_X9_findLearner_25, e_X9_findLearner_28, e_X9_findLearner_30, e_X9_findLearner_33, e_X9_findLearner_34, e_X9_findLearner_37, e_X9_findLearner_39, e_X9_findLearner_42, e_X9_findLearner_45, e_X9_findLearner_47, e_X9_findLearner_48, e_X9_findLearner_50, e_X9_findLearner_54, e_X9_findLearner_57, e_X9_findLearner_58, e_X9_findLearner_60, e_X9_findLearner_61, e_X9_findLearner_67, e_X9_findLearner_70, e_X9_findLearner_72, e_X9_findLearner_73, e_X9_findLearner_76, e_X9_findLearner_79, e_X9_findLearner_80, cO_0 hY, cg_0_6 hY, cO_30 hY, cg_30_1 hY, cg_30_8 hY, cg_0_12 hY, rP_n, rS_n, xrd_rP, xrd_rS, xfit_rP, xfit_rS, xcat_rP, xcat_rS, nem, su_get, z1e0, z2e0, z3e0, z4e0, z5e0, z0e1, zme0, Nat.reduceEqDiff, not_true_eq_false, and_self, false_or, or_false, or_self,  bI_eq0, bI_eq1, i10, i20, i30, i00, ne_eq, Decidable.not_not, true_and, and_true, false_and, and_false, xrd_ref, xrd_null, xrd_rf, xid_int, xcat_int, xcat_ref, xcat_null, xcat_long, xcat_rf, xfit_int, xfit_0, xfit_1, xfit_ref, xfit_null, xfit_rf, not_false_eq_true, ↓reduceIte, z01_0, z01_1, bI_01, true_or, or_true, c_X9_findLearner_7 (cO_19 hY) k1, c_X9_findLearner_18 (cO_19 hY) k2, c_X9_findLearner_51 (cO_30 hY hp) k3, c_X9_findLearner_64 _ _ k4, h2, hp, a, dd, b, c, d, n24, nI_1, alS, ep, cp_, rp]
        · simp only [e_X9_findLearner_0, e_X9_findLearner_1, e_X9_findLearner_3, e_X9_findLearner_4, e_X9_findLearner_10, e_X9_findLearner_13, e_X9_findLearner_14, e_X9_findLearner_17, e_X9_findLearner_21, e_X9_findLearner_23, e_X9_findLearner_25n, e_X9_findLearner_25, e_X9_findLearner_28, e_X9_findLearner_30, e_X9_findLearner_33, e_X9_findLearner_34, e_X9_findLearner_37, e_X9_findLearner_39, e_X9_findLearner_42, e_X9_findLearner_45, e_X9_findLearner_47, e_X9_findLearner_48, e_X9_findLearner_50, e_X9_findLearner_54, e_X9_findLearner_57, e_X9_findLearner_58, e_X9_findLearner_60, e_X9_findLearner_61, e_X9_findLearner_67, e_X9_findLearner_70, e_X9_findLearner_72, e_X9_findLearner_73, e_X9_findLearner_76, e_X9_findLearner_79, e_X9_findLearner_80, cO_0 hY, cg_0_6 hY, cO_30 hY, cg_30_1 hY, cg_30_8 hY, cg_0_12 hY, rP_n, rS_n, xrd_rP, xrd_rS, xfit_rP, xfit_rS, xcat_rP, xcat_rS, nem, su_get, z1e0, z2e0, z3e0, z4e0, z5e0, z0e1, zme0, Nat.reduceEqDiff, not_true_eq_false, and_self, false_or, or_false, or_self,  bI_eq0, bI_eq1, i10, i20, i30, i00, ne_eq, Decidable.not_not, true_and, and_true, false_and, and_false, xrd_ref, xrd_null, xrd_rf, xid_int, xcat_int, xcat_ref, xcat_null, xcat_long, xcat_rf, xfit_int, xfit_0, xfit_1, xfit_ref, xfit_null, xfit_rf, not_false_eq_true, ↓reduceIte, z01_0, z01_1, bI_01, true_or, or_true, c_X9_findLearner_7 (cO_19 hY) k1, c_X9_findLearner_18 (cO_19 hY) k2, c_X9_findLearner_51 (cO_30 hY hp) k3, h2, hp, a, dd, b, d, n24, nI_1, alS, ep, cp_]
          exact ih _
    · simp only [e_X9_findLearner_0, e_X9_findLearner_1, e_X9_findLearner_3, e_X9_findLearner_4, e_X9_findLearner_10, e_X9_findLearner_13, e_X9_findLearner_14, e_X9_findLearner_17, e_X9_findLearner_21, e_X9_findLearner_23, e_X9_findLearner_25n, e_X9_findLearner_25, e_X9_findLearner_28, e_X9_findLearner_30, e_X9_findLearner_33, e_X9_findLearner_34, e_X9_findLearner_37, e_X9_findLearner_39, e_X9_findLearner_42, e_X9_findLearner_45, e_X9_findLearner_47, e_X9_findLearner_48, e_X9_findLearner_50, e_X9_findLearner_54, e_X9_findLearner_57, e_X9_findLearner_58, e_X9_findLearner_60, e_X9_findLearner_61, e_X9_findLearner_67, e_X9_findLearner_70, e_X9_findLearner_72, e_X9_findLearner_73, e_X9_findLearner_76, e_X9_findLearner_79, e_X9_findLearner_80, cO_0 hY, cg_0_6 hY, cO_30 hY, cg_30_1 hY, cg_30_8 hY, cg_0_12 hY, rP_n, rS_n, xrd_rP, xrd_rS, xfit_rP, xfit_rS, xcat_rP, xcat_rS, nem, su_get, z1e0, z2e0, z3e0, z4e0, z5e0, z0e1, zme0, Nat.reduceEqDiff, not_true_eq_false, and_self, false_or, or_false, or_self,  bI_eq0, bI_eq1, i10, i20, i30, i00, ne_eq, Decidable.not_not, true_and, and_true, false_and, and_false, xrd_ref, xrd_null, xrd_rf, xid_int, xcat_int, xcat_ref, xcat_null, xcat_long, xcat_rf, xfit_int, xfit_0, xfit_1, xfit_ref, xfit_null, xfit_rf, not_false_eq_true, ↓reduceIte, z01_0, z01_1, bI_01, true_or, or_true, c_X9_findLearner_7 (cO_19 hY) k1, c_X9_findLearner_18 (cO_19 hY) k2, h2, hp, a, nI_1, alS, ep, cp_]
      exact ih _
theorem cd_find {x H L : Nat} {a4 : Option Value} (hY : zok g A z P S) (hx : x < S) (hH : H < 9600) (hl : lOK s P L) (hc : L ≤ z.1.2.2 3) : Ev g 97 0 [some (.ref (A 0 0)), some (.ref (A 34 x)), some (.int (nI H)), none, a4] [] (cp A z s o) (.inl (some (rP A (alS s x H (nL s) 0))), cp A z s o) := by
  have := lp_cfind (g := g) (A := A) (s := s) (o := o) hY hx hH hl hc L 0 a4 (by omega)
  rw [nI_0] at this
  rw [nL_eq hl hY.2.2.2.2.2.1.1]
  simp only [e_X9_findLearner_0, e_X9_findLearner_1, nem, su_get, z1e0, z2e0, z3e0, z4e0, z5e0, z0e1, zme0, Nat.reduceEqDiff, not_true_eq_false, and_self, false_or, or_false, or_self,  bI_eq0, bI_eq1, i10, i20, i30, i00, ne_eq, Decidable.not_not, true_and, and_true, false_and, and_false, xrd_ref, xrd_null, xrd_rf, xid_int, xcat_int, xcat_ref, xcat_null, xcat_long, xcat_rf, xfit_int, xfit_0, xfit_1, xfit_ref, xfit_null, xfit_rf, not_false_eq_true, ↓reduceIte, z01_0, z01_1, bI_01, true_or, or_true]
  exact this
theorem cd_keepWaiting {x : Nat} (hY : zok g A z P S) (hx : x < S) : Ev g 88 0 [some (.ref (A 0 0)), some (.ref (A 34 x))] [] (cp A z s o) (.inl none, cp A z (if s 48 0 = 0 then su s 32 x (s 32 x + 1) else su s 33 x (s 33 x + 1)) o) := by
  by_cases a : s 48 0 = 0
  · simp only [e_X9_keepWaitingForSomebody_0, e_X9_keepWaitingForSomebody_1, e_X9_keepWaitingForSomebody_4, e_X9_keepWaitingForSomebody_7, e_X9_keepWaitingForSomebody_8, e_X9_keepWaitingForSomebody_11, e_X9_keepWaitingForSomebody_12, e_X9_keepWaitingForSomebody_15, e_X9_keepWaitingForSomebody_16, e_X9_keepWaitingForSomebody_17, e_X9_keepWaitingForSomebody_20, e_X9_keepWaitingForSomebody_23, e_X9_keepWaitingForSomebody_24, e_X9_keepWaitingForSomebody_27, e_X9_keepWaitingForSomebody_28, e_X9_keepWaitingForSomebody_31, e_X9_keepWaitingForSomebody_32, e_X9_keepWaitingForSomebody_33, e_X9_keepWaitingForSomebody_36, cO_0 hY, cg_0_13 hY, cO_34 hY, cg_34_7 hY, cO_35 hY, cg_35_7 hY, cO_36 hY, cg_36_7 hY, hb_35 hY, cw_35_7 hY, hb_36 hY, cw_36_7 hY, cg_35_6 hY, cg_36_6 hY, cw_35_6 hY, cw_36_6 hY, rP_n, rS_n, xrd_rP, xrd_rS, xfit_rP, xfit_rS, xcat_rP, xcat_rS, nem, su_get, z1e0, z2e0, z3e0, z4e0, z5e0, z0e1, zme0, Nat.reduceEqDiff, not_true_eq_false, and_self, false_or, or_false, or_self,  bI_eq0, bI_eq1, i10, i20, i30, i00, ne_eq, Decidable.not_not, true_and, and_true, false_and, and_false, xrd_ref, xrd_null, xrd_rf, xid_int, xcat_int, xcat_ref, xcat_null, xcat_long, xcat_rf, xfit_int, xfit_0, xfit_1, xfit_ref, xfit_null, xfit_rf, not_false_eq_true, ↓reduceIte, z01_0, z01_1, bI_01, true_or, or_true, hx, a]
  · simp only [e_X9_keepWaitingForSomebody_0, e_X9_keepWaitingForSomebody_1, e_X9_keepWaitingForSomebody_4, e_X9_keepWaitingForSomebody_7, e_X9_keepWaitingForSomebody_8, e_X9_keepWaitingForSomebody_11, e_X9_keepWaitingForSomebody_12, e_X9_keepWaitingForSomebody_15, e_X9_keepWaitingForSomebody_16, e_X9_keepWaitingForSomebody_17, e_X9_keepWaitingForSomebody_20, e_X9_keepWaitingForSomebody_23, e_X9_keepWaitingForSomebody_24, e_X9_keepWaitingForSomebody_27, e_X9_keepWaitingForSomebody_28, e_X9_keepWaitingForSomebody_31, e_X9_keepWaitingForSomebody_32, e_X9_keepWaitingForSomebody_33, e_X9_keepWaitingForSomebody_36, cO_0 hY, cg_0_13 hY, cO_34 hY, cg_34_7 hY, cO_35 hY, cg_35_7 hY, cO_36 hY, cg_36_7 hY, hb_35 hY, cw_35_7 hY, hb_36 hY, cw_36_7 hY, cg_35_6 hY, cg_36_6 hY, cw_35_6 hY, cw_36_6 hY, rP_n, rS_n, xrd_rP, xrd_rS, xfit_rP, xfit_rS, xcat_rP, xcat_rS, nem, su_get, z1e0, z2e0, z3e0, z4e0, z5e0, z0e1, zme0, Nat.reduceEqDiff, not_true_eq_false, and_self, false_or, or_false, or_self,  bI_eq0, bI_eq1, i10, i20, i30, i00, ne_eq, Decidable.not_not, true_and, and_true, false_and, and_false, xrd_ref, xrd_null, xrd_rf, xid_int, xcat_int, xcat_ref, xcat_null, xcat_long, xcat_rf, xfit_int, xfit_0, xfit_1, xfit_ref, xfit_null, xfit_rf, not_false_eq_true, ↓reduceIte, z01_0, z01_1, bI_01, true_or, or_true, hx, a]
/-- behind the boarding of leader and second one -/
theorem ev_csnE {x H L : Nat} {a2 a3 : Option Value} (hz : zo g A z o P S) (hx : x < S) (hH : H < 9600) (hl : lOK s P L) (hc : L ≤ z.1.2.2 3) (h30 : s 30 x = -1) : ∃ o', (∀ F j, F ≠ 63 → o' F j = o F j) ∧ Ev g 95 45 [some (.ref (A 0 0)), some (.ref (A 34 x)), a2, a3, some (.int (nI H))] [] (cp A z s o) (.inl none, cp A z (snE x H s) o') := by
  have hY := hz.1
  have h6 := hY.2.2.2.2.2.1.1
  unfold snE
  by_cases a : s 25 x = 0
  · rw [if_pos a, su_same s h30]
    refine ⟨o, fun _ _ _ => rfl, ?_⟩
    unfold snF
    rw [if_pos h30]
    simp only [e_X9_depart_45, e_X9_depart_46, e_X9_depart_49, e_X9_depart_52, e_X9_depart_53, e_X9_depart_56, e_X9_depart_57, e_X9_depart_58, e_X9_depart_63, e_X9_depart_66, e_X9_depart_67, e_X9_depart_68, e_X9_depart_69, e_X9_depart_72, e_X9_depart_78, cO_34 hY, cg_34_7 hY, cO_35 hY, hb_35 hY, cw_35_0 hY, cO_36 hY, hb_36 hY, cw_36_0 hY, cw_35_1 hY, cw_36_1 hY, cw_35_2 hY, cn_35_2 hY, cr_35_2 hY, cw_36_2 hY, cn_36_2 hY, cr_36_2 hY, cw_35_3 hY, cn_35_3 hY, cr_35_3 hY, cw_36_3 hY, cn_36_3 hY, cr_36_3 hY, cg_34_6 hY, cw_35_4 hY, cn_35_4 hY, cr_35_4 hY, cw_36_4 hY, cn_36_4 hY, cr_36_4 hY, cg_35_4 hY, cg_36_4 hY, rP_n, rS_n, xrd_rP, xrd_rS, xfit_rP, xfit_rS, xcat_rP, xcat_rS, nem, su_get, z1e0, z2e0, z3e0, z4e0, z5e0, z0e1, zme0, Nat.reduceEqDiff, not_true_eq_false, and_self, false_or, or_false, or_self,  bI_eq0, bI_eq1, i10, i20, i30, i00, ne_eq, Decidable.not_not, true_and, and_true, false_and, and_false, xrd_ref, xrd_null, xrd_rf, xid_int, xcat_int, xcat_ref, xcat_null, xcat_long, xcat_rf, xfit_int, xfit_0, xfit_1, xfit_ref, xfit_null, xfit_rf, not_false_eq_true, ↓reduceIte, z01_0, z01_1, bI_01, true_or, or_true, hx, a]
  · rw [if_neg a]
    have k1 := cd_find (g := g) (s := s) (o := o) (a4 := none) hY hx hH hl hc
    have al := al_in s x H L L 0 (by omega)
    rw [nL_eq hl h6] at k1 ⊢
    generalize alS s x H L 0 = v at k1 al
    have e30 : su s 30 x v 30 x = v := by simp [su]
    unfold snF
    rw [e30]
    by_cases b : v = -1
    · subst b
      refine ⟨o, fun _ _ _ => rfl, ?_⟩
      have k2 := cd_board0 (g := g) (s := su s 30 x (-1)) (o := o) (x := x) hY
      simp only [if_true]
      simp only [rP_n] at k1 k2
      simp only [e_X9_depart_45, e_X9_depart_46, e_X9_depart_49, e_X9_depart_52, e_X9_depart_53, e_X9_depart_56, e_X9_depart_57, e_X9_depart_58, e_X9_depart_63, e_X9_depart_66, e_X9_depart_67, e_X9_depart_68, e_X9_depart_69, e_X9_depart_72, e_X9_depart_78, cO_34 hY, cg_34_7 hY, cO_35 hY, hb_35 hY, cw_35_0 hY, cO_36 hY, hb_36 hY, cw_36_0 hY, cw_35_1 hY, cw_36_1 hY, cw_35_2 hY, cn_35_2 hY, cr_35_2 hY, cw_36_2 hY, cn_36_2 hY, cr_36_2 hY, cw_35_3 hY, cn_35_3 hY, cr_35_3 hY, cw_36_3 hY, cn_36_3 hY, cr_36_3 hY, cg_34_6 hY, cw_35_4 hY, cn_35_4 hY, cr_35_4 hY, cw_36_4 hY, cn_36_4 hY, cr_36_4 hY, cg_35_4 hY, cg_36_4 hY, rP_n, rS_n, xrd_rP, xrd_rS, xfit_rP, xfit_rS, xcat_rP, xcat_rS, nem, su_get, z1e0, z2e0, z3e0, z4e0, z5e0, z0e1, zme0, Nat.reduceEqDiff, not_true_eq_false, and_self, false_or, or_false, or_self,  bI_eq0, bI_eq1, i10, i20, i30, i00, ne_eq, Decidable.not_not, true_and, and_true, false_and, and_false, xrd_ref, xrd_null, xrd_rf, xid_int, xcat_int, xcat_ref, xcat_null, xcat_long, xcat_rf, xfit_int, xfit_0, xfit_1, xfit_ref, xfit_null, xfit_rf, not_false_eq_true, ↓reduceIte, z01_0, z01_1, bI_01, true_or, or_true, hx, a, c_X9_depart_60 _ _ (cO_0 hY) k1, c_X9_depart_75 _ _ (cO_0 hY) k2, hb_35 hY, cn_35_4 hY, cg_35_4 hY]
    · rw [if_neg b]
      have hv := al.resolve_left b
      have e17 : ∀ j, su s 30 x v 17 j = s 17 j := fun j => su_other _ _ (by decide)
      have k2 := cd_board (g := g) (s := su s 30 x v) (o := o) (v := v) (t := nI H) hY (lOK_o hl e17 (su_other _ _ (by decide))) hc hx (inL_o hv e17)
      refine ⟨mc o 3, fun F j h => mc_o o 3 h j, ?_⟩
      simp only [e_X9_depart_45, e_X9_depart_46, e_X9_depart_49, e_X9_depart_52, e_X9_depart_53, e_X9_depart_56, e_X9_depart_57, e_X9_depart_58, e_X9_depart_63, e_X9_depart_66, e_X9_depart_67, e_X9_depart_68, e_X9_depart_69, e_X9_depart_72, e_X9_depart_78, cO_34 hY, cg_34_7 hY, cO_35 hY, hb_35 hY, cw_35_0 hY, cO_36 hY, hb_36 hY, cw_36_0 hY, cw_35_1 hY, cw_36_1 hY, cw_35_2 hY, cn_35_2 hY, cr_35_2 hY, cw_36_2 hY, cn_36_2 hY, cr_36_2 hY, cw_35_3 hY, cn_35_3 hY, cr_35_3 hY, cw_36_3 hY, cn_36_3 hY, cr_36_3 hY, cg_34_6 hY, cw_35_4 hY, cn_35_4 hY, cr_35_4 hY, cw_36_4 hY, cn_36_4 hY, cr_36_4 hY, cg_35_4 hY, cg_36_4 hY, rP_n, rS_n, xrd_rP, xrd_rS, xfit_rP, xfit_rS, xcat_rP, xcat_rS, nem, su_get, z1e0, z2e0, z3e0, z4e0, z5e0, z0e1, zme0, Nat.reduceEqDiff, not_true_eq_false, and_self, false_or, or_false, or_self,  bI_eq0, bI_eq1, i10, i20, i30, i00, ne_eq, Decidable.not_not, true_and, and_true, false_and, and_false, xrd_ref, xrd_null, xrd_rf, xid_int, xcat_int, xcat_ref, xcat_null, xcat_long, xcat_rf, xfit_int, xfit_0, xfit_1, xfit_ref, xfit_null, xfit_rf, not_false_eq_true, ↓reduceIte, z01_0, z01_1, bI_01, true_or, or_true, hx, a, c_X9_depart_60 _ _ (cO_0 hY) k1, c_X9_depart_75 _ _ (cO_0 hY) k2, hb_35 hY, cw_35_4 hY, cg_35_4 hY]
theorem cd_depart {x H L : Nat} {first other : Int32} (hz : zo g A z o P S) (hx : x < S) (hH : H < 9600) (hl : lOK s P L) (hc : L ≤ z.1.2.2 3) (h30 : s 30 x = -1) (hf : inL s L first) (ho : other = -1 ∨ (other ≠ first ∧ inL s L other)) : ∃ o', (∀ F j, F ≠ 63 → o' F j = o F j) ∧ Ev g 95 0 [some (.ref (A 0 0)), some (.ref (A 34 x)), some (rP A first), some (rP A other), some (.int (nI H))] [] (cp A z s o) (.inl none, cp A z (snE x H (snD x H other (bd (su (su (su (su s 26 x 1) 27 x (nI H)) 28 x first) 29 x other) first x (nI H)))) o') := by
  have hY := hz.1
  have h6 := hY.2.2.2.2.2.1.1
  have oth : ∀ F j, F < 26 ∨ 29 < F → (su (su (su (su s 26 x 1) 27 x (nI H)) 28 x first) 29 x other) F j = s F j := fun F j h => by
    rw [su_other _ _ (by omega), su_other _ _ (by omega), su_other _ _ (by omega), su_other _ _ (by omega)]
  have e17 := fun j => oth 17 j (by omega)
  have l1 := lOK_o hl e17 (oth 18 0 (by omega))
  have i1 := inL_o hf e17
  have k1 := cd_board (g := g) (A := A) (z := z) (o := o) (t := nI H) hY l1 hc hx i1
  have l2 := bd_l (x := x) (t := nI H) h6 l1 i1
  have z1 : zo g A z (mc o 3) P S := (ze_63 hz (fun F j h => mc_o o 3 h j)).1
  have e30 : bd (su (su (su (su s 26 x 1) 27 x (nI H)) 28 x first) 29 x other) first x (nI H) 30 x = -1 := by
    rw [bd_o _ _ _ _ (by decide) (by decide) (by decide) (by decide) (by decide) (by decide), oth 30 x (by omega), h30]
  unfold snD
  by_cases c : other = -1
  · subst c
    obtain ⟨o1, r1, r2⟩ := ev_csnE (g := g) (A := A) (a2 := some (rP A first)) (a3 := some (rP A (-1))) z1 hx hH l2.1 (by omega) e30
    have k2 := cd_board0 (g := g) (A := A) (s := bd (su (su (su (su s 26 x 1) 27 x (nI H)) 28 x first) 29 x (-1)) first x (nI H)) (o := mc o 3) (x := x) hY
    refine ⟨o1, fun F j h => (r1 F j h).trans (mc_o o 3 h j), ?_⟩
    rw [if_pos rfl]
    simp only [rP_n] at k2 r2 ⊢
    simp only [e_X9_depart_0, e_X9_depart_1, e_X9_depart_4, e_X9_depart_5, e_X9_depart_8, e_X9_depart_9, e_X9_depart_12, e_X9_depart_14, e_X9_depart_17, e_X9_depart_18, e_X9_depart_21, e_X9_depart_22, e_X9_depart_25, e_X9_depart_26, e_X9_depart_29, e_X9_depart_30, e_X9_depart_33, e_X9_depart_34, e_X9_depart_35, e_X9_depart_39, e_X9_depart_40, e_X9_depart_41, cO_34 hY, cg_34_7 hY, cO_35 hY, hb_35 hY, cw_35_0 hY, cO_36 hY, hb_36 hY, cw_36_0 hY, cw_35_1 hY, cw_36_1 hY, cw_35_2 hY, cn_35_2 hY, cr_35_2 hY, cw_36_2 hY, cn_36_2 hY, cr_36_2 hY, cw_35_3 hY, cn_35_3 hY, cr_35_3 hY, cw_36_3 hY, cn_36_3 hY, cr_36_3 hY, cg_34_6 hY, cw_35_4 hY, cn_35_4 hY, cr_35_4 hY, cw_36_4 hY, cn_36_4 hY, cr_36_4 hY, cg_35_4 hY, cg_36_4 hY, rP_n, rS_n, xrd_rP, xrd_rS, xfit_rP, xfit_rS, xcat_rP, xcat_rS, nem, su_get, z1e0, z2e0, z3e0, z4e0, z5e0, z0e1, zme0, Nat.reduceEqDiff, not_true_eq_false, and_self, false_or, or_false, or_self,  bI_eq0, bI_eq1, i10, i20, i30, i00, ne_eq, Decidable.not_not, true_and, and_true, false_and, and_false, xrd_ref, xrd_null, xrd_rf, xid_int, xcat_int, xcat_ref, xcat_null, xcat_long, xcat_rf, xfit_int, xfit_0, xfit_1, xfit_ref, xfit_null, xfit_rf, not_false_eq_true, ↓reduceIte, z01_0, z01_1, bI_01, true_or, or_true, hx, c_X9_depart_36 _ _ (cO_0 hY) k1, c_X9_depart_42 _ _ (cO_0 hY) k2]
    exact r2
  · rw [if_neg c]
    have ho := ho.resolve_left c
    have i2 := l2.2 _ ho.1 (inL_o ho.2 e17)
    have k2 := cd_board (g := g) (A := A) (z := z) (o := mc o 3) (t := nI H) hY l2.1 (by omega) hx i2
    have l3 := bd_l (x := x) (t := nI H) h6 l2.1 i2
    have z2 : zo g A z (mc (mc o 3) 3) P S := (ze_63 z1 (fun F j h => mc_o _ 3 h j)).1
    obtain ⟨o1, r1, r2⟩ := ev_csnE (g := g) (A := A) (a2 := some (rP A first)) (a3 := some (rP A other)) z2 hx hH l3.1 (by omega) (by
      rw [bd_o _ _ _ _ (by decide) (by decide) (by decide) (by decide) (by decide) (by decide)]; exact e30)
    refine ⟨o1, fun F j h => (r1 F j h).trans ((mc_o _ 3 h j).trans (mc_o o 3 h j)), ?_⟩
    simp only [e_X9_depart_0, e_X9_depart_1, e_X9_depart_4, e_X9_depart_5, e_X9_depart_8, e_X9_depart_9, e_X9_depart_12, e_X9_depart_14, e_X9_depart_17, e_X9_depart_18, e_X9_depart_21, e_X9_depart_22, e_X9_depart_25, e_X9_depart_26, e_X9_depart_29, e_X9_depart_30, e_X9_depart_33, e_X9_depart_34, e_X9_depart_35, e_X9_depart_39, e_X9_depart_40, e_X9_depart_41, cO_34 hY, cg_34_7 hY, cO_35 hY, hb_35 hY, cw_35_0 hY, cO_36 hY, hb_36 hY, cw_36_0 hY, cw_35_1 hY, cw_36_1 hY, cw_35_2 hY, cn_35_2 hY, cr_35_2 hY, cw_36_2 hY, cn_36_2 hY, cr_36_2 hY, cw_35_3 hY, cn_35_3 hY, cr_35_3 hY, cw_36_3 hY, cn_36_3 hY, cr_36_3 hY, cg_34_6 hY, cw_35_4 hY, cn_35_4 hY, cr_35_4 hY, cw_36_4 hY, cn_36_4 hY, cr_36_4 hY, cg_35_4 hY, cg_36_4 hY, rP_n, rS_n, xrd_rP, xrd_rS, xfit_rP, xfit_rS, xcat_rP, xcat_rS, nem, su_get, z1e0, z2e0, z3e0, z4e0, z5e0, z0e1, zme0, Nat.reduceEqDiff, not_true_eq_false, and_self, false_or, or_false, or_self,  bI_eq0, bI_eq1, i10, i20, i30, i00, ne_eq, Decidable.not_not, true_and, and_true, false_and, and_false, xrd_ref, xrd_null, xrd_rf, xid_int, xcat_int, xcat_ref, xcat_null, xcat_long, xcat_rf, xfit_int, xfit_0, xfit_1, xfit_ref, xfit_null, xfit_rf, not_false_eq_true, ↓reduceIte, z01_0, z01_1, bI_01, true_or, or_true, hx, c_X9_depart_36 _ _ (cO_0 hY) k1, c_X9_depart_42 _ _ (cO_0 hY) k2]
    exact r2
end CG2
