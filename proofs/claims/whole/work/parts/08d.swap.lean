/-! ===== the class swaps ===== -/
section SW
variable {g : Nat × Nat × Nat} {A : Nat → Nat → Nat} {z : zT} {s o : mS} {P S : Nat}
theorem cd_went {x : Nat} (hY : zok g A z P S) (hx : x < S) : Ev g 105 0 [some (.ref (A 0 0)), some (.ref (A 35 x))] [] (cp A z s o) (.inl (some (.int (bI (s 26 x = 1 ∧ s 27 x = s 1 0)))), cp A z s o) := by
  by_cases a : s 26 x = 1
  · by_cases b : s 27 x = s 1 0 <;> simp only [e_X9_wentJustNow_0, e_X9_wentJustNow_1, e_X9_wentJustNow_4, e_X9_wentJustNow_5, e_X9_wentJustNow_8, e_X9_wentJustNow_9, e_X9_wentJustNow_12, e_X9_wentJustNow_13, e_X9_wentJustNow_16, e_X9_wentJustNow_19, e_X9_wentJustNow_20, e_X9_wentJustNow_23, e_X9_wentJustNow_24, cO_35 hY, cg_35_0 hY, cO_36 hY, cg_36_0 hY, cg_35_1 hY, cg_36_1 hY, cO_0 hY, cg_0_10 hY, rP_n, rS_n, xrd_rP, xrd_rS, xfit_rP, xfit_rS, xcat_rP, xcat_rS, nem, su_get, z1e0, z2e0, z3e0, z4e0, z5e0, z0e1, zme0, Nat.reduceEqDiff, not_true_eq_false, and_self, false_or, or_false, or_self,  bI_eq0, bI_eq1, i10, i20, i30, i00, ne_eq, Decidable.not_not, true_and, and_true, false_and, and_false, xrd_ref, xrd_null, xrd_rf, xid_int, xcat_int, xcat_ref, xcat_null, xcat_long, xcat_rf, xfit_int, xfit_0, xfit_1, xfit_ref, xfit_null, xfit_rf, not_false_eq_true, ↓reduceIte, z01_0, z01_1, bI_01, true_or, or_true, hx, a, b, bI]
  · simp only [e_X9_wentJustNow_0, e_X9_wentJustNow_1, e_X9_wentJustNow_4, e_X9_wentJustNow_5, e_X9_wentJustNow_8, e_X9_wentJustNow_9, e_X9_wentJustNow_12, e_X9_wentJustNow_13, e_X9_wentJustNow_16, e_X9_wentJustNow_19, e_X9_wentJustNow_20, e_X9_wentJustNow_23, e_X9_wentJustNow_24, cO_35 hY, cg_35_0 hY, cO_36 hY, cg_36_0 hY, cg_35_1 hY, cg_36_1 hY, cO_0 hY, cg_0_10 hY, rP_n, rS_n, xrd_rP, xrd_rS, xfit_rP, xfit_rS, xcat_rP, xcat_rS, nem, su_get, z1e0, z2e0, z3e0, z4e0, z5e0, z0e1, zme0, Nat.reduceEqDiff, not_true_eq_false, and_self, false_or, or_false, or_self,  bI_eq0, bI_eq1, i10, i20, i30, i00, ne_eq, Decidable.not_not, true_and, and_true, false_and, and_false, xrd_ref, xrd_null, xrd_rf, xid_int, xcat_int, xcat_ref, xcat_null, xcat_long, xcat_rf, xfit_int, xfit_0, xfit_1, xfit_ref, xfit_null, xfit_rf, not_false_eq_true, ↓reduceIte, z01_0, z01_1, bI_01, true_or, or_true, hx, a, bI]
theorem cd_canGive {x : Nat} (hY : zok g A z P S) (hx : x < S) (h28 : pmP P (s 28 x)) (h29 : pmP P (s 29 x)) : Ev g 106 0 [some (.ref (A 0 0)), some (.ref (A 35 x))] [] (cp A z s o) (.inl (some (.int (r_cs s x))), cp A z s o) := by
  have h6 := hY.2.2.2.2.2.1.1
  have k1 := cd_went (g := g) (A := A) (z := z) (s := s) (o := o) hY hx
  unfold r_cs
  by_cases a : s 26 x = 1 ∧ s 27 x = s 1 0
  · have e1 : bI (s 26 x = 1 ∧ s 27 x = s 1 0) = 1 := by simp only [bI, a, and_self, if_true]
    rw [e1] at k1
    rcases h28 with e | ⟨p, hp, e⟩
    · have e0 : bI (s 26 x = 1 ∧ s 27 x = s 1 0 ∧ ¬ s 28 x = -1 ∧ s 29 x = -1) = 0 := by simp [bI, e]
      rw [e0]
      simp only [e_X9_canGiveLeader_0, e_X9_canGiveLeader_1, e_X9_canGiveLeader_5, e_X9_canGiveLeader_8, e_X9_canGiveLeader_9, e_X9_canGiveLeader_12n, e_X9_canGiveLeader_12, e_X9_canGiveLeader_15, e_X9_canGiveLeader_16, e_X9_canGiveLeader_19n, e_X9_canGiveLeader_19, e_X9_canGiveLeader_22, e_X9_canGiveLeader_23, e_X9_canGiveLeader_26, e_X9_canGiveLeader_27, cO_35 hY, cg_35_2 hY, cO_36 hY, cg_36_2 hY, cg_35_3 hY, cg_36_3 hY, rP_n, rS_n, xrd_rP, xrd_rS, xfit_rP, xfit_rS, xcat_rP, xcat_rS, nem, su_get, z1e0, z2e0, z3e0, z4e0, z5e0, z0e1, zme0, Nat.reduceEqDiff, not_true_eq_false, and_self, false_or, or_false, or_self,  bI_eq0, bI_eq1, i10, i20, i30, i00, ne_eq, Decidable.not_not, true_and, and_true, false_and, and_false, xrd_ref, xrd_null, xrd_rf, xid_int, xcat_int, xcat_ref, xcat_null, xcat_long, xcat_rf, xfit_int, xfit_0, xfit_1, xfit_ref, xfit_null, xfit_rf, not_false_eq_true, ↓reduceIte, z01_0, z01_1, bI_01, true_or, or_true, c_X9_canGiveLeader_2 _ (cO_0 hY) k1, hx, e]
    · have n1 : ¬ nI p = -1 := nI_nm1 (by omega)
      rcases h29 with f | ⟨q, hq, f⟩
      · have e0 : bI (s 26 x = 1 ∧ s 27 x = s 1 0 ∧ ¬ s 28 x = -1 ∧ s 29 x = -1) = 1 := by simp [bI, e, f, n1, a.1, a.2]
        rw [e0]
        simp only [e_X9_canGiveLeader_0, e_X9_canGiveLeader_1, e_X9_canGiveLeader_5, e_X9_canGiveLeader_8, e_X9_canGiveLeader_9, e_X9_canGiveLeader_12n, e_X9_canGiveLeader_12, e_X9_canGiveLeader_15, e_X9_canGiveLeader_16, e_X9_canGiveLeader_19n, e_X9_canGiveLeader_19, e_X9_canGiveLeader_22, e_X9_canGiveLeader_23, e_X9_canGiveLeader_26, e_X9_canGiveLeader_27, cO_35 hY, cg_35_2 hY, cO_36 hY, cg_36_2 hY, cg_35_3 hY, cg_36_3 hY, rP_n, rS_n, xrd_rP, xrd_rS, xfit_rP, xfit_rS, xcat_rP, xcat_rS, nem, su_get, z1e0, z2e0, z3e0, z4e0, z5e0, z0e1, zme0, Nat.reduceEqDiff, not_true_eq_false, and_self, false_or, or_false, or_self,  bI_eq0, bI_eq1, i10, i20, i30, i00, ne_eq, Decidable.not_not, true_and, and_true, false_and, and_false, xrd_ref, xrd_null, xrd_rf, xid_int, xcat_int, xcat_ref, xcat_null, xcat_long, xcat_rf, xfit_int, xfit_0, xfit_1, xfit_ref, xfit_null, xfit_rf, not_false_eq_true, ↓reduceIte, z01_0, z01_1, bI_01, true_or, or_true, c_X9_canGiveLeader_2 _ (cO_0 hY) k1, hx, e, f, rP_r (show p < 2 ^ 31 by omega)]
      · have n2 : ¬ nI q = -1 := nI_nm1 (by omega)
        have e0 : bI (s 26 x = 1 ∧ s 27 x = s 1 0 ∧ ¬ s 28 x = -1 ∧ s 29 x = -1) = 0 := by simp [bI, f, n2]
        rw [e0]
        simp only [e_X9_canGiveLeader_0, e_X9_canGiveLeader_1, e_X9_canGiveLeader_5, e_X9_canGiveLeader_8, e_X9_canGiveLeader_9, e_X9_canGiveLeader_12n, e_X9_canGiveLeader_12, e_X9_canGiveLeader_15, e_X9_canGiveLeader_16, e_X9_canGiveLeader_19n, e_X9_canGiveLeader_19, e_X9_canGiveLeader_22, e_X9_canGiveLeader_23, e_X9_canGiveLeader_26, e_X9_canGiveLeader_27, cO_35 hY, cg_35_2 hY, cO_36 hY, cg_36_2 hY, cg_35_3 hY, cg_36_3 hY, rP_n, rS_n, xrd_rP, xrd_rS, xfit_rP, xfit_rS, xcat_rP, xcat_rS, nem, su_get, z1e0, z2e0, z3e0, z4e0, z5e0, z0e1, zme0, Nat.reduceEqDiff, not_true_eq_false, and_self, false_or, or_false, or_self,  bI_eq0, bI_eq1, i10, i20, i30, i00, ne_eq, Decidable.not_not, true_and, and_true, false_and, and_false, xrd_ref, xrd_null, xrd_rf, xid_int, xcat_int, xcat_ref, xcat_null, xcat_long, xcat_rf, xfit_int, xfit_0, xfit_1, xfit_ref, xfit_null, xfit_rf, not_false_eq_true, ↓reduceIte, z01_0, z01_1, bI_01, true_or, or_true, c_X9_canGiveLeader_2 _ (cO_0 hY) k1, hx, e, f, rP_r (show p < 2 ^ 31 by omega), rP_r (show q < 2 ^ 31 by omega)]
  · have e1 : bI (s 26 x = 1 ∧ s 27 x = s 1 0) = 0 := by simp only [bI, a, if_false]
    have e0 : bI (s 26 x = 1 ∧ s 27 x = s 1 0 ∧ ¬ s 28 x = -1 ∧ s 29 x = -1) = 0 := by
      unfold bI
      rw [if_neg (fun q => a ⟨q.1, q.2.1⟩)]
    rw [e1] at k1
    rw [e0]
    simp only [e_X9_canGiveLeader_0, e_X9_canGiveLeader_1, e_X9_canGiveLeader_5, e_X9_canGiveLeader_8, e_X9_canGiveLeader_9, e_X9_canGiveLeader_12n, e_X9_canGiveLeader_12, e_X9_canGiveLeader_15, e_X9_canGiveLeader_16, e_X9_canGiveLeader_19n, e_X9_canGiveLeader_19, e_X9_canGiveLeader_22, e_X9_canGiveLeader_23, e_X9_canGiveLeader_26, e_X9_canGiveLeader_27, nem, su_get, z1e0, z2e0, z3e0, z4e0, z5e0, z0e1, zme0, Nat.reduceEqDiff, not_true_eq_false, and_self, false_or, or_false, or_self,  bI_eq0, bI_eq1, i10, i20, i30, i00, ne_eq, Decidable.not_not, true_and, and_true, false_and, and_false, xrd_ref, xrd_null, xrd_rf, xid_int, xcat_int, xcat_ref, xcat_null, xcat_long, xcat_rf, xfit_int, xfit_0, xfit_1, xfit_ref, xfit_null, xfit_rf, not_false_eq_true, ↓reduceIte, z01_0, z01_1, bI_01, true_or, or_true, c_X9_canGiveLeader_2 _ (cO_0 hY) k1]
theorem cd_swap {x y : Int32} {a3 a4 a5 a6 : Option Value} (hz : zo g A z o P S) (hS : s 19 0 = nI S) (hkk : kOK s P) (hsh : ∀ x, x < S → shI s P x) : Ev g 67 0 [some (.ref (A 0 0)), some (.int x), some (.int y), a3, a4, a5, a6] [] (cp A z s o) (if v_swap s x y then (.inl (some (.int (q_swap s x y))), cp A z (f_swap s x y) o) else (.inr 1, bmp (cp A z s o))) := by
  have hY := hz.1
  have h6 := hY.2.2.2.2.2.1.1
  have h4 := hY.2.2.2.2.2.1.2
  by_cases a : 0 ≤ x ∧ x < s 19 0
  · have a' := a
    rw [hS] at a
    obtain ⟨x, hx, rfl⟩ := of_in (n := S) (nI_toInt (by omega)) a
    have hcx : (nI x).toNatClampNeg = x := nI_clamp (by omega)
    have k1 := cd_sn (g := g) (s := s) (o := o) hY hS hz.2.1.2 hx
    by_cases b : 0 ≤ y ∧ y < s 19 0
    · have b' := b
      rw [hS] at b
      obtain ⟨y, hy, rfl⟩ := of_in (n := S) (nI_toInt (by omega)) b
      have hcy : (nI y).toNatClampNeg = y := nI_clamp (by omega)
      have k2 := cd_sn (g := g) (s := s) (o := o) hY hS hz.2.1.2 hy
      have v : v_swap s (nI x) (nI y) := ⟨a', b'⟩
      obtain ⟨x28, x29, x30⟩ := (hsh x hx).2.2
      obtain ⟨y28, y29, y30⟩ := (hsh y hy).2.2
      have kx := cd_canGive (g := g) (A := A) (z := z) (s := s) (o := o) hY hx x28 x29
      have ky := cd_canGive (g := g) (A := A) (z := z) (s := s) (o := o) hY hy y28 y29
      have u0 : ∀ o, cp A z (su s 0 0 0) o = cp A z s o := fun o => cp_x hY (fun F j h0 _ _ _ _ => su_other _ _ h0)
      rw [if_pos v]
      unfold q_swap f_swap
      rw [if_pos v, if_pos v, hcx, hcy]
      have exy : (nI x = nI y) ↔ x = y := nI_eq (by omega) (by omega)
      by_cases c0 : x = y
      · rw [if_neg (fun q => q.1 c0), if_neg (fun q => q.1 c0), u0]
        simp only [e_X9_swap_0, e_X9_swap_1, e_X9_swap_5, e_X9_swap_6, e_X9_swap_7, e_X9_swap_11, e_X9_swap_13, e_X9_swap_14, e_X9_swap_15, e_X9_swap_18, e_X9_swap_19, e_X9_swap_22, e_X9_swap_24, e_X9_swap_27, e_X9_swap_30, e_X9_swap_31, e_X9_swap_32, e_X9_swap_38, e_X9_swap_41, e_X9_swap_42, e_X9_swap_44, e_X9_swap_50, e_X9_swap_53, e_X9_swap_54, cO_34 hY, cg_34_1 hY, cg_34_7 hY, cO_35 hY, cg_35_2 hY, cO_36 hY, cg_36_2 hY, hb_35 hY, cw_35_2 hY, cn_35_2 hY, cr_35_2 hY, hb_36 hY, cw_36_2 hY, cn_36_2 hY, cr_36_2 hY, cO_30 hY, cg_30_4 hY, rP_n, rS_n, xrd_rP, xrd_rS, xfit_rP, xfit_rS, xcat_rP, xcat_rS, nem, su_get, z1e0, z2e0, z3e0, z4e0, z5e0, z0e1, zme0, Nat.reduceEqDiff, not_true_eq_false, and_self, false_or, or_false, or_self,  bI_eq0, bI_eq1, i10, i20, i30, i00, ne_eq, Decidable.not_not, true_and, and_true, false_and, and_false, xrd_ref, xrd_null, xrd_rf, xid_int, xcat_int, xcat_ref, xcat_null, xcat_long, xcat_rf, xfit_int, xfit_0, xfit_1, xfit_ref, xfit_null, xfit_rf, not_false_eq_true, ↓reduceIte, z01_0, z01_1, bI_01, true_or, or_true, c_X9_swap_2 (cO_0 hY) k2, c_X9_swap_8 (cO_0 hY) k2, exy, c0]
      · by_cases c1 : s 20 x = s 20 y
        · by_cases c2 : r_cs s x = 0
          · rw [if_neg (fun q => q.2.1 c2), if_neg (fun q => q.2.1 c2), u0]
            rw [c2] at kx
            simp only [e_X9_swap_0, e_X9_swap_1, e_X9_swap_5, e_X9_swap_6, e_X9_swap_7, e_X9_swap_11, e_X9_swap_13, e_X9_swap_14, e_X9_swap_15, e_X9_swap_18, e_X9_swap_19, e_X9_swap_22, e_X9_swap_24, e_X9_swap_27, e_X9_swap_30, e_X9_swap_31, e_X9_swap_32, e_X9_swap_38, e_X9_swap_41, e_X9_swap_42, e_X9_swap_44, e_X9_swap_50, e_X9_swap_53, e_X9_swap_54, cO_34 hY, cg_34_1 hY, cg_34_7 hY, cO_35 hY, cg_35_2 hY, cO_36 hY, cg_36_2 hY, hb_35 hY, cw_35_2 hY, cn_35_2 hY, cr_35_2 hY, hb_36 hY, cw_36_2 hY, cn_36_2 hY, cr_36_2 hY, cO_30 hY, cg_30_4 hY, rP_n, rS_n, xrd_rP, xrd_rS, xfit_rP, xfit_rS, xcat_rP, xcat_rS, nem, su_get, z1e0, z2e0, z3e0, z4e0, z5e0, z0e1, zme0, Nat.reduceEqDiff, not_true_eq_false, and_self, false_or, or_false, or_self,  bI_eq0, bI_eq1, i10, i20, i30, i00, ne_eq, Decidable.not_not, true_and, and_true, false_and, and_false, xrd_ref, xrd_null, xrd_rf, xid_int, xcat_int, xcat_ref, xcat_null, xcat_long, xcat_rf, xfit_int, xfit_0, xfit_1, xfit_ref, xfit_null, xfit_rf, not_false_eq_true, ↓reduceIte, z01_0, z01_1, bI_01, true_or, or_true, c_X9_swap_2 (cO_0 hY) k1, c_X9_swap_8 (cO_0 hY) k2, c_X9_swap_35 _ (cO_0 hY) kx, exy, c0, c1, hx, hy]
          · by_cases c3 : r_cs s y = 0
            · rw [if_neg (fun q => q.2.2.1 c3), if_neg (fun q => q.2.2.1 c3), u0]
              rw [c3] at ky
              simp only [e_X9_swap_0, e_X9_swap_1, e_X9_swap_5, e_X9_swap_6, e_X9_swap_7, e_X9_swap_11, e_X9_swap_13, e_X9_swap_14, e_X9_swap_15, e_X9_swap_18, e_X9_swap_19, e_X9_swap_22, e_X9_swap_24, e_X9_swap_27, e_X9_swap_30, e_X9_swap_31, e_X9_swap_32, e_X9_swap_38, e_X9_swap_41, e_X9_swap_42, e_X9_swap_44, e_X9_swap_50, e_X9_swap_53, e_X9_swap_54, cO_34 hY, cg_34_1 hY, cg_34_7 hY, cO_35 hY, cg_35_2 hY, cO_36 hY, cg_36_2 hY, hb_35 hY, cw_35_2 hY, cn_35_2 hY, cr_35_2 hY, hb_36 hY, cw_36_2 hY, cn_36_2 hY, cr_36_2 hY, cO_30 hY, cg_30_4 hY, rP_n, rS_n, xrd_rP, xrd_rS, xfit_rP, xfit_rS, xcat_rP, xcat_rS, nem, su_get, z1e0, z2e0, z3e0, z4e0, z5e0, z0e1, zme0, Nat.reduceEqDiff, not_true_eq_false, and_self, false_or, or_false, or_self,  bI_eq0, bI_eq1, i10, i20, i30, i00, ne_eq, Decidable.not_not, true_and, and_true, false_and, and_false, xrd_ref, xrd_null, xrd_rf, xid_int, xcat_int, xcat_ref, xcat_null, xcat_long, xcat_rf, xfit_int, xfit_0, xfit_1, xfit_ref, xfit_null, xfit_rf, not_false_eq_true, ↓reduceIte, z01_0, z01_1, bI_01, true_or, or_true, c_X9_swap_2 (cO_0 hY) k1, c_X9_swap_8 (cO_0 hY) k2, c_X9_swap_35 _ (cO_0 hY) kx, c_X9_swap_47 _ (cO_0 hY) ky, exy, c0, c1, c2, hx, hy]
            · have gx : s 26 x = 1 ∧ s 27 x = s 1 0 ∧ ¬ s 28 x = -1 ∧ s 29 x = -1 := by
                unfold r_cs at c2; rw [bI_eq0, Decidable.not_not] at c2; exact c2
              have gy : s 26 y = 1 ∧ s 27 y = s 1 0 ∧ ¬ s 28 y = -1 ∧ s 29 y = -1 := by
                unfold r_cs at c3; rw [bI_eq0, Decidable.not_not] at c3; exact c3
              obtain ⟨p, hp, ep⟩ := x28.resolve_left gx.2.2.1
              obtain ⟨q, hq, eq⟩ := y28.resolve_left gy.2.2.1
              have hcp : (nI p).toNatClampNeg = p := nI_clamp (by omega)
              have hcq : (nI q).toNatClampNeg = q := nI_clamp (by omega)
              have kp := cd_mayLead (g := g) (A := A) (z := z) (s := s) (o := o) (a2 := none) hY hp hy (hkk p hp)
              have kq := cd_mayLead (g := g) (A := A) (z := z) (s := s) (o := o) (a2 := none) hY hq hx (hkk q hq)
              have hf : ∀ {out : xR}, Ev g 67 0 [some (.ref (A 0 0)), some (.int (nI x)), some (.int (nI y)), a3, a4, a5, a6] [] (cp A z s o) out = Ev g 67 74 [some (.ref (A 0 0)), some (.int (nI x)), some (.int (nI y)), some (.ref (A 34 x)), some (.ref (A 34 y)), some (.ref (A 30 p)), some (.ref (A 30 q))] [] (cp A z s o) out := by
                intro out
                simp only [e_X9_swap_0, e_X9_swap_1, e_X9_swap_5, e_X9_swap_6, e_X9_swap_7, e_X9_swap_11, e_X9_swap_13, e_X9_swap_14, e_X9_swap_15, e_X9_swap_18, e_X9_swap_19, e_X9_swap_22, e_X9_swap_24, e_X9_swap_27, e_X9_swap_30, e_X9_swap_31, e_X9_swap_32, e_X9_swap_38, e_X9_swap_41, e_X9_swap_42, e_X9_swap_44, e_X9_swap_50, e_X9_swap_53, e_X9_swap_54, e_X9_swap_55, e_X9_swap_56, e_X9_swap_59, e_X9_swap_62, e_X9_swap_64, e_X9_swap_66, e_X9_swap_69, e_X9_swap_72, cO_34 hY, cg_34_1 hY, cg_34_7 hY, cO_35 hY, cg_35_2 hY, cO_36 hY, cg_36_2 hY, hb_35 hY, cw_35_2 hY, cn_35_2 hY, cr_35_2 hY, hb_36 hY, cw_36_2 hY, cn_36_2 hY, cr_36_2 hY, cO_30 hY, cg_30_4 hY, rP_n, rS_n, xrd_rP, xrd_rS, xfit_rP, xfit_rS, xcat_rP, xcat_rS, nem, su_get, z1e0, z2e0, z3e0, z4e0, z5e0, z0e1, zme0, Nat.reduceEqDiff, not_true_eq_false, and_self, false_or, or_false, or_self,  bI_eq0, bI_eq1, i10, i20, i30, i00, ne_eq, Decidable.not_not, true_and, and_true, false_and, and_false, xrd_ref, xrd_null, xrd_rf, xid_int, xcat_int, xcat_ref, xcat_null, xcat_long, xcat_rf, xfit_int, xfit_0, xfit_1, xfit_ref, xfit_null, xfit_rf, not_false_eq_true, ↓reduceIte, z01_0, z01_1, bI_01, true_or, or_true, c_X9_swap_2 (cO_0 hY) k1, c_X9_swap_8 (cO_0 hY) k2, c_X9_swap_35 _ (cO_0 hY) kx, c_X9_swap_47 _ (cO_0 hY) ky, exy, c0, c1, c2, c3, hx, hy, ep, eq, rP_r (show p < 2 ^ 31 by omega), rP_r (show q < 2 ^ 31 by omega)]
              rw [hf]
              by_cases c4 : r_may s p y = 0
              · have nc : ¬ c_swap s x y := fun w => w.2.2.2.2.1 (by rw [ep, hcp]; exact c4)
                rw [if_neg nc, if_neg nc, u0]
                rw [c4] at kp
                simp only [e_X9_swap_74, e_X9_swap_76n, e_X9_swap_76, e_X9_swap_79, e_X9_swap_81n, e_X9_swap_81, e_X9_swap_84, e_X9_swap_86, e_X9_swap_91, e_X9_swap_94, e_X9_swap_96, e_X9_swap_100, e_X9_swap_103, e_X9_swap_104, cO_34 hY, cg_34_1 hY, cg_34_7 hY, cO_35 hY, cg_35_2 hY, cO_36 hY, cg_36_2 hY, hb_35 hY, cw_35_2 hY, cn_35_2 hY, cr_35_2 hY, hb_36 hY, cw_36_2 hY, cn_36_2 hY, cr_36_2 hY, cO_30 hY, cg_30_4 hY, rP_n, rS_n, xrd_rP, xrd_rS, xfit_rP, xfit_rS, xcat_rP, xcat_rS, nem, su_get, z1e0, z2e0, z3e0, z4e0, z5e0, z0e1, zme0, Nat.reduceEqDiff, not_true_eq_false, and_self, false_or, or_false, or_self,  bI_eq0, bI_eq1, i10, i20, i30, i00, ne_eq, Decidable.not_not, true_and, and_true, false_and, and_false, xrd_ref, xrd_null, xrd_rf, xid_int, xcat_int, xcat_ref, xcat_null, xcat_long, xcat_rf, xfit_int, xfit_0, xfit_1, xfit_ref, xfit_null, xfit_rf, not_false_eq_true, ↓reduceIte, z01_0, z01_1, bI_01, true_or, or_true, c_X9_swap_88 _ (cO_30 hY hp) kp]
              · by_cases c5 : r_may s q x = 0
                · have nc : ¬ c_swap s x y := fun w => w.2.2.2.2.2 (by rw [eq, hcq]; exact c5)
                  rw [if_neg nc, if_neg nc, u0]
                  rw [c5] at kq
                  simp only [e_X9_swap_74, e_X9_swap_76n, e_X9_swap_76, e_X9_swap_79, e_X9_swap_81n, e_X9_swap_81, e_X9_swap_84, e_X9_swap_86, e_X9_swap_91, e_X9_swap_94, e_X9_swap_96, e_X9_swap_100, e_X9_swap_103, e_X9_swap_104, cO_34 hY, cg_34_1 hY, cg_34_7 hY, cO_35 hY, cg_35_2 hY, cO_36 hY, cg_36_2 hY, hb_35 hY, cw_35_2 hY, cn_35_2 hY, cr_35_2 hY, hb_36 hY, cw_36_2 hY, cn_36_2 hY, cr_36_2 hY, cO_30 hY, cg_30_4 hY, rP_n, rS_n, xrd_rP, xrd_rS, xfit_rP, xfit_rS, xcat_rP, xcat_rS, nem, su_get, z1e0, z2e0, z3e0, z4e0, z5e0, z0e1, zme0, Nat.reduceEqDiff, not_true_eq_false, and_self, false_or, or_false, or_self,  bI_eq0, bI_eq1, i10, i20, i30, i00, ne_eq, Decidable.not_not, true_and, and_true, false_and, and_false, xrd_ref, xrd_null, xrd_rf, xid_int, xcat_int, xcat_ref, xcat_null, xcat_long, xcat_rf, xfit_int, xfit_0, xfit_1, xfit_ref, xfit_null, xfit_rf, not_false_eq_true, ↓reduceIte, z01_0, z01_1, bI_01, true_or, or_true, c_X9_swap_88 _ (cO_30 hY hp) kp, c_X9_swap_97 _ (cO_30 hY hq) kq, c4]
                · have yc : c_swap s x y := ⟨c0, c2, c3, c1, by rw [ep, hcp]; exact c4, by rw [eq, hcq]; exact c5⟩
                  rw [if_pos yc, if_pos yc]
                  -- both are aboard
                  have bp : s 8 p = 2 := by
                    rcases ((hsh x hx).1 gx.1).2.1 with w | ⟨w, w1, w2, w3, w4⟩
                    · exact absurd w gx.2.2.1
                    · have : w = p := (nI_eq (by omega) (by omega)).mp (w2.symm.trans ep)
                      subst this; exact w3
                  have bq : s 8 q = 2 := by
                    rcases ((hsh y hy).1 gy.1).2.1 with w | ⟨w, w1, w2, w3, w4⟩
                    · exact absurd w gy.2.2.1
                    · have : w = q := (nI_eq (by omega) (by omega)).mp (w2.symm.trans eq)
                      subst this; exact w3
                  have j1 := cd_goAboard (g := g) (A := A) (z := z) (s := su (su s 28 x (nI q)) 28 y (nI p)) (o := o) hY hp hy
                  have e1 : su (su (su s 28 x (nI q)) 28 y (nI p)) 8 p 2 = su (su s 28 x (nI q)) 28 y (nI p) := su_same _ (by rw [su_other _ _ (by decide), su_other _ _ (by decide)]; exact bp)
                  rw [e1] at j1
                  have j2 := cd_goAboard (g := g) (A := A) (z := z) (s := su (su (su s 28 x (nI q)) 28 y (nI p)) 13 p (nI y)) (o := o) hY hq hx
                  have e2 : su (su (su (su s 28 x (nI q)) 28 y (nI p)) 13 p (nI y)) 8 q 2 = su (su (su s 28 x (nI q)) 28 y (nI p)) 13 p (nI y) := su_same _ (by rw [su_other _ _ (by decide), su_other _ _ (by decide), su_other _ _ (by decide)]; exact bq)
                  rw [e2] at j2
                  have fin : cp A z (w_swap (su s 0 0 0) x y) o = cp A z (su (su (su (su s 28 x (nI q)) 28 y (nI p)) 13 p (nI y)) 13 q (nI x)) o := by
                    refine cp_x hY (fun F j h0 _ _ _ _ => ?_)
                    have o0 : ∀ k j, k ≠ 0 → su s 0 0 0 k j = s k j := fun k j h => su_other _ _ h
                    unfold w_swap
                    simp only [o0 28 _ (by decide), ep, eq, hcp, hcq, su_get, h0, false_and, if_false]
                  rw [fin]
                  have q2 : q < 2 ^ 31 := by omega
                  have p2 : p < 2 ^ 31 := by omega
                  simp only [e_X9_swap_74, e_X9_swap_76n, e_X9_swap_76, e_X9_swap_79, e_X9_swap_81n, e_X9_swap_81, e_X9_swap_84, e_X9_swap_86, e_X9_swap_91, e_X9_swap_94, e_X9_swap_96, e_X9_swap_100, e_X9_swap_103, e_X9_swap_104, e_X9_swap_105, e_X9_swap_106, e_X9_swap_109, e_X9_swap_111, e_X9_swap_114, e_X9_swap_116, e_X9_swap_119, e_X9_swap_121, e_X9_swap_124, e_X9_swap_126, e_X9_swap_129, e_X9_swap_134, e_X9_swap_136, e_X9_swap_139, e_X9_swap_143, e_X9_swap_144, cO_34 hY, cg_34_1 hY, cg_34_7 hY, cO_35 hY, cg_35_2 hY, cO_36 hY, cg_36_2 hY, hb_35 hY, cw_35_2 hY, cn_35_2 hY, cr_35_2 hY, hb_36 hY, cw_36_2 hY, cn_36_2 hY, cr_36_2 hY, cO_30 hY, cg_30_4 hY, rP_n, rS_n, xrd_rP, xrd_rS, xfit_rP, xfit_rS, xcat_rP, xcat_rS, nem, su_get, z1e0, z2e0, z3e0, z4e0, z5e0, z0e1, zme0, Nat.reduceEqDiff, not_true_eq_false, and_self, false_or, or_false, or_self,  bI_eq0, bI_eq1, i10, i20, i30, i00, ne_eq, Decidable.not_not, true_and, and_true, false_and, and_false, xrd_ref, xrd_null, xrd_rf, xid_int, xcat_int, xcat_ref, xcat_null, xcat_long, xcat_rf, xfit_int, xfit_0, xfit_1, xfit_ref, xfit_null, xfit_rf, not_false_eq_true, ↓reduceIte, z01_0, z01_1, bI_01, true_or, or_true, c_X9_swap_88 _ (cO_30 hY hp) kp, c_X9_swap_97 _ (cO_30 hY hq) kq, c4, c5, hx, hy, hp, hq, q2, p2, c_X9_swap_131 _ (cO_31 hY hp) j1, c_X9_swap_140 _ (cO_31 hY hq) j2]
        · rw [if_neg (fun q => c1 q.2.2.2.1), if_neg (fun q => c1 q.2.2.2.1), u0]
          simp only [e_X9_swap_0, e_X9_swap_1, e_X9_swap_5, e_X9_swap_6, e_X9_swap_7, e_X9_swap_11, e_X9_swap_13, e_X9_swap_14, e_X9_swap_15, e_X9_swap_18, e_X9_swap_19, e_X9_swap_22, e_X9_swap_24, e_X9_swap_27, e_X9_swap_30, e_X9_swap_31, e_X9_swap_32, e_X9_swap_38, e_X9_swap_41, e_X9_swap_42, e_X9_swap_44, e_X9_swap_50, e_X9_swap_53, e_X9_swap_54, cO_34 hY, cg_34_1 hY, cg_34_7 hY, cO_35 hY, cg_35_2 hY, cO_36 hY, cg_36_2 hY, hb_35 hY, cw_35_2 hY, cn_35_2 hY, cr_35_2 hY, hb_36 hY, cw_36_2 hY, cn_36_2 hY, cr_36_2 hY, cO_30 hY, cg_30_4 hY, rP_n, rS_n, xrd_rP, xrd_rS, xfit_rP, xfit_rS, xcat_rP, xcat_rS, nem, su_get, z1e0, z2e0, z3e0, z4e0, z5e0, z0e1, zme0, Nat.reduceEqDiff, not_true_eq_false, and_self, false_or, or_false, or_self,  bI_eq0, bI_eq1, i10, i20, i30, i00, ne_eq, Decidable.not_not, true_and, and_true, false_and, and_false, xrd_ref, xrd_null, xrd_rf, xid_int, xcat_int, xcat_ref, xcat_null, xcat_long, xcat_rf, xfit_int, xfit_0, xfit_1, xfit_ref, xfit_null, xfit_rf, not_false_eq_true, ↓reduceIte, z01_0, z01_1, bI_01, true_or, or_true, c_X9_swap_2 (cO_0 hY) k1, c_X9_swap_8 (cO_0 hY) k2, exy, c0, c1, hx, hy]
    · have k2 := cd_snX (g := g) (s := s) (o := o) hY b
      rw [if_neg (fun q => b q.2)]
      simp only [e_X9_swap_0, e_X9_swap_1, e_X9_swap_5, e_X9_swap_6, e_X9_swap_7, e_X9_swap_11, e_X9_swap_13, e_X9_swap_14, e_X9_swap_15, e_X9_swap_18, e_X9_swap_19, e_X9_swap_22, e_X9_swap_24, e_X9_swap_27, e_X9_swap_30, e_X9_swap_31, e_X9_swap_32, e_X9_swap_38, e_X9_swap_41, e_X9_swap_42, e_X9_swap_44, e_X9_swap_50, e_X9_swap_53, e_X9_swap_54, cO_34 hY, cg_34_1 hY, cg_34_7 hY, cO_35 hY, cg_35_2 hY, cO_36 hY, cg_36_2 hY, hb_35 hY, cw_35_2 hY, cn_35_2 hY, cr_35_2 hY, hb_36 hY, cw_36_2 hY, cn_36_2 hY, cr_36_2 hY, cO_30 hY, cg_30_4 hY, rP_n, rS_n, xrd_rP, xrd_rS, xfit_rP, xfit_rS, xcat_rP, xcat_rS, nem, su_get, z1e0, z2e0, z3e0, z4e0, z5e0, z0e1, zme0, Nat.reduceEqDiff, not_true_eq_false, and_self, false_or, or_false, or_self,  bI_eq0, bI_eq1, i10, i20, i30, i00, ne_eq, Decidable.not_not, true_and, and_true, false_and, and_false, xrd_ref, xrd_null, xrd_rf, xid_int, xcat_int, xcat_ref, xcat_null, xcat_long, xcat_rf, xfit_int, xfit_0, xfit_1, xfit_ref, xfit_null, xfit_rf, not_false_eq_true, ↓reduceIte, z01_0, z01_1, bI_01, true_or, or_true, c_X9_swap_2 (cO_0 hY) k1, t_X9_swap_8 (cO_0 hY) k2, bmp]
  · have k1 := cd_snX (g := g) (s := s) (o := o) hY a
    rw [if_neg (fun q => a q.1)]
    simp only [e_X9_swap_0, e_X9_swap_1, e_X9_swap_5, e_X9_swap_6, e_X9_swap_7, e_X9_swap_11, e_X9_swap_13, e_X9_swap_14, e_X9_swap_15, e_X9_swap_18, e_X9_swap_19, e_X9_swap_22, e_X9_swap_24, e_X9_swap_27, e_X9_swap_30, e_X9_swap_31, e_X9_swap_32, e_X9_swap_38, e_X9_swap_41, e_X9_swap_42, e_X9_swap_44, e_X9_swap_50, e_X9_swap_53, e_X9_swap_54, cO_34 hY, cg_34_1 hY, cg_34_7 hY, cO_35 hY, cg_35_2 hY, cO_36 hY, cg_36_2 hY, hb_35 hY, cw_35_2 hY, cn_35_2 hY, cr_35_2 hY, hb_36 hY, cw_36_2 hY, cn_36_2 hY, cr_36_2 hY, cO_30 hY, cg_30_4 hY, rP_n, rS_n, xrd_rP, xrd_rS, xfit_rP, xfit_rS, xcat_rP, xcat_rS, nem, su_get, z1e0, z2e0, z3e0, z4e0, z5e0, z0e1, zme0, Nat.reduceEqDiff, not_true_eq_false, and_self, false_or, or_false, or_self,  bI_eq0, bI_eq1, i10, i20, i30, i00, ne_eq, Decidable.not_not, true_and, and_true, false_and, and_false, xrd_ref, xrd_null, xrd_rf, xid_int, xcat_int, xcat_ref, xcat_null, xcat_long, xcat_rf, xfit_int, xfit_0, xfit_1, xfit_ref, xfit_null, xfit_rf, not_false_eq_true, ↓reduceIte, z01_0, z01_1, bI_01, true_or, or_true, t_X9_swap_2 (cO_0 hY) k1, bmp]
end SW
