/-! ===== the class's calls that set ===== -/
def bmp (h : xH) : xH := (h.1 + 1, h.2.1 + 6, h.2.2)
theorem own_x {F j : Nat} (h : ownS F j ≠ (99, 0)) : F ≠ 0 ∧ F ≠ 36 ∧ F ≠ 38 ∧ F ≠ 39 ∧ F ≠ 52 := by
  unfold ownS at h
  split at h <;> simp_all
section ST
variable {g : Nat × Nat × Nat} {A : Nat → Nat → Nat} {z : zT} {s o s' : mS} {P S : Nat}
/-- a state that differs in what the class hasn't -/
theorem cp_x (hY : zok g A z P S) (h : ∀ F j, F ≠ 0 → F ≠ 36 → F ≠ 38 → F ≠ 39 → F ≠ 52 → s' F j = s F j) : cp A z s' o = cp A z s o := by
  refine cp_congr (fun F j e => ?_) (fun _ _ _ => rfl) hY
  obtain ⟨a, b, c, d, e2⟩ := own_x e
  exact h F j a b c d e2
theorem cd_road {n : Int32} (hY : zok g A z P S) : Ev g 61 0 [some (.ref (A 0 0)), some (.int n)] [] (cp A z s o) (if 0 ≤ n ∧ n ≤ 5 then (.inl none, cp A z (f_road s n) (su o 60 0 0)) else (.inr 0, bmp (cp A z s o))) := by
  have rm := zrm (s := s) (o := o) hY (show 6 ≤ 100000 by decide)
  by_cases a : 0 ≤ n ∧ n ≤ 5
  · have e : cp A z (f_road s n) (su o 60 0 0) = cp A z (su s 40 0 n) (su o 60 0 0) := cp_x hY (fun F j h0 h1 h2 h3 h4 => by simp only [f_road, a, and_self, if_true, su_get, h0, h4, false_and, if_false])
    rw [if_pos a, e]
    simp only [e_X9_road_0, e_X9_road_1, e_X9_road_2, e_X9_road_6, e_X9_road_9, e_X9_road_20, e_X9_road_21, e_X9_road_24, e_X9_road_25, e_X9_road_26, e_X9_road_29, e_X9_road_19, cO_0 hY, hb_0 hY, cw_0_14 hY, cw_0_11 hY, rP_n, rS_n, xrd_rP, xrd_rS, xfit_rP, xfit_rS, xcat_rP, xcat_rS, nem, su_get, z1e0, z2e0, z3e0, z4e0, z5e0, z0e1, zme0, Nat.reduceEqDiff, not_true_eq_false, and_self, false_or, or_false, or_self,  bI_eq0, bI_eq1, i10, i20, i30, i00, ne_eq, Decidable.not_not, true_and, and_true, false_and, and_false, xrd_ref, xrd_null, xrd_rf, xid_int, xcat_int, xcat_ref, xcat_null, xcat_long, xcat_rf, xfit_int, xfit_0, xfit_1, xfit_ref, xfit_null, xfit_rf, not_false_eq_true, ↓reduceIte, z01_0, z01_1, bI_01, true_or, or_true, c_X9_road_3 cd_within, a]
  · rw [if_neg a]
    simp only [e_X9_road_0, e_X9_road_1, e_X9_road_2, e_X9_road_6, e_X9_road_9, e_X9_road_20, e_X9_road_21, e_X9_road_24, e_X9_road_25, e_X9_road_26, e_X9_road_29, e_X9_road_19, cO_0 hY, hb_0 hY, cw_0_14 hY, cw_0_11 hY, rP_n, rS_n, xrd_rP, xrd_rS, xfit_rP, xfit_rS, xcat_rP, xcat_rS, nem, su_get, z1e0, z2e0, z3e0, z4e0, z5e0, z0e1, zme0, Nat.reduceEqDiff, not_true_eq_false, and_self, false_or, or_false, or_self,  bI_eq0, bI_eq1, i10, i20, i30, i00, ne_eq, Decidable.not_not, true_and, and_true, false_and, and_false, xrd_ref, xrd_null, xrd_rf, xid_int, xcat_int, xcat_ref, xcat_null, xcat_long, xcat_rf, xfit_int, xfit_0, xfit_1, xfit_ref, xfit_null, xfit_rf, not_false_eq_true, ↓reduceIte, z01_0, z01_1, bI_01, true_or, or_true, c_X9_road_3 cd_within, a, rm, bmp]
theorem cd_rest {a b c : Int32} (hY : zok g A z P S) : Ev g 62 0 [some (.ref (A 0 0)), some (.int a), some (.int b), some (.int c)] [] (cp A z s o) (if (0 ≤ a ∧ a ≤ 48) ∧ (0 ≤ b ∧ b ≤ 48) ∧ (0 ≤ c ∧ c ≤ 48) then (.inl none, cp A z (f_rest s a b c) (su o 60 0 0)) else (.inr 0, bmp (cp A z s o))) := by
  have rm := zrm (s := s) (o := o) hY (show 6 ≤ 100000 by decide)
  by_cases h1 : 0 ≤ a ∧ a ≤ 48
  · by_cases h2 : 0 ≤ b ∧ b ≤ 48
    · by_cases h3 : 0 ≤ c ∧ c ≤ 48
      · have e : cp A z (f_rest s a b c) (su o 60 0 0) = cp A z (su (su (su s 41 0 a) 42 0 b) 43 0 c) (su o 60 0 0) := cp_x hY (fun F j h0 _ _ _ h4 => by simp only [f_rest, h1, h2, h3, and_self, if_true, su_get, h0, h4, false_and, if_false])
        have k := cd_restSet (g := g) (A := A) (z := z) (s := s) (o := su o 60 0 0) (a := a) (b := b) (c := c) hY
        rw [if_pos ⟨h1, h2, h3⟩, e]
        simp only [e_X9_rest_0, e_X9_rest_1, e_X9_rest_2, e_X9_rest_7, e_X9_rest_10, e_X9_rest_11, e_X9_rest_12, e_X9_rest_17, e_X9_rest_20, e_X9_rest_21, e_X9_rest_22, e_X9_rest_27, e_X9_rest_30, e_X9_rest_41, e_X9_rest_42, e_X9_rest_45, e_X9_rest_46, e_X9_rest_49, e_X9_rest_50, e_X9_rest_51, e_X9_rest_55, e_X9_rest_40, cO_0 hY, hb_0 hY, cw_0_14 hY, cg_0_5 hY, rP_n, rS_n, xrd_rP, xrd_rS, xfit_rP, xfit_rS, xcat_rP, xcat_rS, nem, su_get, z1e0, z2e0, z3e0, z4e0, z5e0, z0e1, zme0, Nat.reduceEqDiff, not_true_eq_false, and_self, false_or, or_false, or_self,  bI_eq0, bI_eq1, i10, i20, i30, i00, ne_eq, Decidable.not_not, true_and, and_true, false_and, and_false, xrd_ref, xrd_null, xrd_rf, xid_int, xcat_int, xcat_ref, xcat_null, xcat_long, xcat_rf, xfit_int, xfit_0, xfit_1, xfit_ref, xfit_null, xfit_rf, not_false_eq_true, ↓reduceIte, z01_0, z01_1, bI_01, true_or, or_true, c_X9_rest_4 cd_within, c_X9_rest_14 cd_within, c_X9_rest_24 cd_within, h1, h2, h3, c_X9_rest_52 (cO_18 hY) k]
      · rw [if_neg (fun q => h3 q.2.2)]
        simp only [e_X9_rest_0, e_X9_rest_1, e_X9_rest_2, e_X9_rest_7, e_X9_rest_10, e_X9_rest_11, e_X9_rest_12, e_X9_rest_17, e_X9_rest_20, e_X9_rest_21, e_X9_rest_22, e_X9_rest_27, e_X9_rest_30, e_X9_rest_41, e_X9_rest_42, e_X9_rest_45, e_X9_rest_46, e_X9_rest_49, e_X9_rest_50, e_X9_rest_51, e_X9_rest_55, e_X9_rest_40, cO_0 hY, hb_0 hY, cw_0_14 hY, cg_0_5 hY, rP_n, rS_n, xrd_rP, xrd_rS, xfit_rP, xfit_rS, xcat_rP, xcat_rS, nem, su_get, z1e0, z2e0, z3e0, z4e0, z5e0, z0e1, zme0, Nat.reduceEqDiff, not_true_eq_false, and_self, false_or, or_false, or_self,  bI_eq0, bI_eq1, i10, i20, i30, i00, ne_eq, Decidable.not_not, true_and, and_true, false_and, and_false, xrd_ref, xrd_null, xrd_rf, xid_int, xcat_int, xcat_ref, xcat_null, xcat_long, xcat_rf, xfit_int, xfit_0, xfit_1, xfit_ref, xfit_null, xfit_rf, not_false_eq_true, ↓reduceIte, z01_0, z01_1, bI_01, true_or, or_true, c_X9_rest_4 cd_within, c_X9_rest_14 cd_within, c_X9_rest_24 cd_within, h1, h2, h3, rm, bmp]
    · rw [if_neg (fun q => h2 q.2.1)]
      simp only [e_X9_rest_0, e_X9_rest_1, e_X9_rest_2, e_X9_rest_7, e_X9_rest_10, e_X9_rest_11, e_X9_rest_12, e_X9_rest_17, e_X9_rest_20, e_X9_rest_21, e_X9_rest_22, e_X9_rest_27, e_X9_rest_30, e_X9_rest_41, e_X9_rest_42, e_X9_rest_45, e_X9_rest_46, e_X9_rest_49, e_X9_rest_50, e_X9_rest_51, e_X9_rest_55, e_X9_rest_40, cO_0 hY, hb_0 hY, cw_0_14 hY, cg_0_5 hY, rP_n, rS_n, xrd_rP, xrd_rS, xfit_rP, xfit_rS, xcat_rP, xcat_rS, nem, su_get, z1e0, z2e0, z3e0, z4e0, z5e0, z0e1, zme0, Nat.reduceEqDiff, not_true_eq_false, and_self, false_or, or_false, or_self,  bI_eq0, bI_eq1, i10, i20, i30, i00, ne_eq, Decidable.not_not, true_and, and_true, false_and, and_false, xrd_ref, xrd_null, xrd_rf, xid_int, xcat_int, xcat_ref, xcat_null, xcat_long, xcat_rf, xfit_int, xfit_0, xfit_1, xfit_ref, xfit_null, xfit_rf, not_false_eq_true, ↓reduceIte, z01_0, z01_1, bI_01, true_or, or_true, c_X9_rest_4 cd_within, c_X9_rest_14 cd_within, h1, h2, rm, bmp]
  · rw [if_neg (fun q => h1 q.1)]
    simp only [e_X9_rest_0, e_X9_rest_1, e_X9_rest_2, e_X9_rest_7, e_X9_rest_10, e_X9_rest_11, e_X9_rest_12, e_X9_rest_17, e_X9_rest_20, e_X9_rest_21, e_X9_rest_22, e_X9_rest_27, e_X9_rest_30, e_X9_rest_41, e_X9_rest_42, e_X9_rest_45, e_X9_rest_46, e_X9_rest_49, e_X9_rest_50, e_X9_rest_51, e_X9_rest_55, e_X9_rest_40, cO_0 hY, hb_0 hY, cw_0_14 hY, cg_0_5 hY, rP_n, rS_n, xrd_rP, xrd_rS, xfit_rP, xfit_rS, xcat_rP, xcat_rS, nem, su_get, z1e0, z2e0, z3e0, z4e0, z5e0, z0e1, zme0, Nat.reduceEqDiff, not_true_eq_false, and_self, false_or, or_false, or_self,  bI_eq0, bI_eq1, i10, i20, i30, i00, ne_eq, Decidable.not_not, true_and, and_true, false_and, and_false, xrd_ref, xrd_null, xrd_rf, xid_int, xcat_int, xcat_ref, xcat_null, xcat_long, xcat_rf, xfit_int, xfit_0, xfit_1, xfit_ref, xfit_null, xfit_rf, not_false_eq_true, ↓reduceIte, z01_0, z01_1, bI_01, true_or, or_true, c_X9_rest_4 cd_within, h1, rm, bmp]
theorem cd_tear {d : Int32} {a2 : Option Value} (hY : zok g A z P S) (ht : tOK s) (h01 : ∀ j, s 36 j = 0 ∨ s 36 j = 1) : Ev g 59 0 [some (.ref (A 0 0)), some (.int d), a2] [] (cp A z s o) (if e_tear d = 0 then (.inl (some (.int (r_tear s d))), cp A z (f_tear s d) (su o 60 0 0)) else (.inr 1, bmp (cp A z s o))) := by
  have rm := zrm (s := s) (o := o) hY (show 6 ≤ 100000 by decide)
  by_cases a : 0 ≤ d ∧ d < 400
  · obtain ⟨D, hD, rfl⟩ := of_in (n := 400) (by decide) a
    have hcD : (nI D).toNatClampNeg = D := nI_clamp (by omega)
    have e : cp A z (f_tear s (nI D)) (su o 60 0 0) = cp A z (su s 35 D 0) (su o 60 0 0) := cp_x hY (fun F j h0 h36 _ _ h4 => by simp only [f_tear, a, and_self, if_true, su_get, h0, h36, h4, hcD, false_and, if_false])
    have k1 := cd_toldOn (g := g) (A := A) (z := z) (s := s) (o := su o 60 0 0) hY hD
    have k2 := cd_forget (g := g) (A := A) (z := z) (s := s) (o := su o 60 0 0) hY hD
    obtain ⟨⟨R, hR, eR⟩, h36⟩ := ht D hD
    have e0 : e_tear (nI D) = 0 := by simp only [e_tear, a, and_self, if_true]
    rw [e0, if_pos rfl, e]
    unfold r_tear
    rw [if_pos a, hcD]
    by_cases w : s 35 D = 0
    · have n1 : s 35 D ≤ 0 := by rw [w]; decide
      rw [h36.mpr w]
      simp only [e_X9_tear_0, e_X9_tear_4, e_X9_tear_7, e_X9_tear_18, e_X9_tear_19, e_X9_tear_22, e_X9_tear_23, e_X9_tear_26, e_X9_tear_30, e_X9_tear_33, e_X9_tear_34, e_X9_tear_37, e_X9_tear_38, e_X9_tear_39, e_X9_tear_40, e_X9_tear_43, e_X9_tear_47, e_X9_tear_48, e_X9_tear_17, cO_0 hY, hb_0 hY, cw_0_14 hY, cg_0_3 hY, rP_n, rS_n, xrd_rP, xrd_rS, xfit_rP, xfit_rS, xcat_rP, xcat_rS, nem, su_get, z1e0, z2e0, z3e0, z4e0, z5e0, z0e1, zme0, Nat.reduceEqDiff, not_true_eq_false, and_self, false_or, or_false, or_self,  bI_eq0, bI_eq1, i10, i20, i30, i00, ne_eq, Decidable.not_not, true_and, and_true, false_and, and_false, xrd_ref, xrd_null, xrd_rf, xid_int, xcat_int, xcat_ref, xcat_null, xcat_long, xcat_rf, xfit_int, xfit_0, xfit_1, xfit_ref, xfit_null, xfit_rf, not_false_eq_true, ↓reduceIte, z01_0, z01_1, bI_01, true_or, or_true, c_X9_tear_1 cd_isDay, c_X9_tear_27 (cO_13 hY) k1, c_X9_tear_44 (cO_13 hY) k2, a, n1]
    · have n1 : ¬ s 35 D ≤ 0 := by
        rw [eR, ← nI_0]
        refine nI_ge ?_ (by omega)
        apply Nat.pos_of_ne_zero
        intro q
        rw [q, nI_0] at eR
        exact w eR
      have w1 : s 36 D = 1 := (h01 D).resolve_left (fun q => w (h36.mp q))
      rw [w1]
      simp only [e_X9_tear_0, e_X9_tear_4, e_X9_tear_7, e_X9_tear_18, e_X9_tear_19, e_X9_tear_22, e_X9_tear_23, e_X9_tear_26, e_X9_tear_30, e_X9_tear_33, e_X9_tear_34, e_X9_tear_37, e_X9_tear_38, e_X9_tear_39, e_X9_tear_40, e_X9_tear_43, e_X9_tear_47, e_X9_tear_48, e_X9_tear_17, cO_0 hY, hb_0 hY, cw_0_14 hY, cg_0_3 hY, rP_n, rS_n, xrd_rP, xrd_rS, xfit_rP, xfit_rS, xcat_rP, xcat_rS, nem, su_get, z1e0, z2e0, z3e0, z4e0, z5e0, z0e1, zme0, Nat.reduceEqDiff, not_true_eq_false, and_self, false_or, or_false, or_self,  bI_eq0, bI_eq1, i10, i20, i30, i00, ne_eq, Decidable.not_not, true_and, and_true, false_and, and_false, xrd_ref, xrd_null, xrd_rf, xid_int, xcat_int, xcat_ref, xcat_null, xcat_long, xcat_rf, xfit_int, xfit_0, xfit_1, xfit_ref, xfit_null, xfit_rf, not_false_eq_true, ↓reduceIte, z01_0, z01_1, bI_01, true_or, or_true, c_X9_tear_1 cd_isDay, c_X9_tear_27 (cO_13 hY) k1, c_X9_tear_44 (cO_13 hY) k2, a, n1]
  · have e0 : e_tear d = 1 := by simp only [e_tear, a, if_false]
    rw [e0, if_neg (by decide)]
    simp only [e_X9_tear_0, e_X9_tear_4, e_X9_tear_7, e_X9_tear_18, e_X9_tear_19, e_X9_tear_22, e_X9_tear_23, e_X9_tear_26, e_X9_tear_30, e_X9_tear_33, e_X9_tear_34, e_X9_tear_37, e_X9_tear_38, e_X9_tear_39, e_X9_tear_40, e_X9_tear_43, e_X9_tear_47, e_X9_tear_48, e_X9_tear_17, cO_0 hY, hb_0 hY, cw_0_14 hY, cg_0_3 hY, rP_n, rS_n, xrd_rP, xrd_rS, xfit_rP, xfit_rS, xcat_rP, xcat_rS, nem, su_get, z1e0, z2e0, z3e0, z4e0, z5e0, z0e1, zme0, Nat.reduceEqDiff, not_true_eq_false, and_self, false_or, or_false, or_self,  bI_eq0, bI_eq1, i10, i20, i30, i00, ne_eq, Decidable.not_not, true_and, and_true, false_and, and_false, xrd_ref, xrd_null, xrd_rf, xid_int, xcat_int, xcat_ref, xcat_null, xcat_long, xcat_rf, xfit_int, xfit_0, xfit_1, xfit_ref, xfit_null, xfit_rf, not_false_eq_true, ↓reduceIte, z01_0, z01_1, bI_01, true_or, or_true, c_X9_tear_1 cd_isDay, a, rm, bmp]
theorem cd_tide {d t : Int32} (hY : zok g A z P S) (ht : tOK s) : Ev g 58 0 [some (.ref (A 0 0)), some (.int d), some (.int t)] [] (cp A z s o) (if e_tide s d t = 0 then (.inl (some (.int (r_tide s d t))), cp A z (f_tide s d t) (su o 60 0 0)) else (.inr (if e_tide s d t = 1 then 1 else if e_tide s d t = 2 then 0 else 2), bmp (cp A z s o))) := by
  have rm := zrm (s := s) (o := o) hY (show 6 ≤ 100000 by decide)
  by_cases a : 0 ≤ d ∧ d < 400
  · obtain ⟨D, hD, rfl⟩ := of_in (n := 400) (by decide) a
    have hcD : (nI D).toNatClampNeg = D := nI_clamp (by omega)
    by_cases b : 0 ≤ t ∧ t ≤ 200
    · obtain ⟨⟨R, hR, eR⟩, h36⟩ := ht D hD
      have k1 := cd_toldOn (g := g) (A := A) (z := z) (s := s) (o := o) hY hD
      by_cases c : nI R = 24
      · have e3 : e_tide s (nI D) t = 3 := by simp only [e_tide, a, b, c, hcD, eR, not_true_eq_false, if_false, and_self, if_true]
        rw [e3, if_neg (by decide), if_neg (by decide), if_neg (by decide)]
        have n1 : ¬ nI R < 24 := by rw [c]; decide
        rw [eR] at k1
        simp only [e_X9_tide_0, e_X9_tide_4, e_X9_tide_7, e_X9_tide_18, e_X9_tide_19, e_X9_tide_25, e_X9_tide_28, e_X9_tide_39, e_X9_tide_42, e_X9_tide_46, e_X9_tide_48, e_X9_tide_51, e_X9_tide_62, e_X9_tide_63, e_X9_tide_66, e_X9_tide_67, e_X9_tide_70, e_X9_tide_71, e_X9_tide_75, e_X9_tide_76, e_X9_tide_79, e_X9_tide_83, e_X9_tide_17, e_X9_tide_38, e_X9_tide_61, cO_0 hY, cg_0_3 hY, hb_0 hY, cw_0_14 hY, rP_n, rS_n, xrd_rP, xrd_rS, xfit_rP, xfit_rS, xcat_rP, xcat_rS, nem, su_get, z1e0, z2e0, z3e0, z4e0, z5e0, z0e1, zme0, Nat.reduceEqDiff, not_true_eq_false, and_self, false_or, or_false, or_self,  bI_eq0, bI_eq1, i10, i20, i30, i00, ne_eq, Decidable.not_not, true_and, and_true, false_and, and_false, xrd_ref, xrd_null, xrd_rf, xid_int, xcat_int, xcat_ref, xcat_null, xcat_long, xcat_rf, xfit_int, xfit_0, xfit_1, xfit_ref, xfit_null, xfit_rf, not_false_eq_true, ↓reduceIte, z01_0, z01_1, bI_01, true_or, or_true, c_X9_tide_1 cd_isDay, c_X9_tide_22 cd_within, c_X9_tide_43 (cO_13 hY) k1, a, b, n1, rm, bmp]
      · have c' := nI_ne (a := R) (b := 24) (by rw [nI_24]; exact c)
        have hcR : (nI R).toNatClampNeg = R := nI_clamp (by omega)
        have n1 : nI R < 24 := by rw [← nI_24]; exact nI_lt (by omega) (by decide)
        have e0 : e_tide s (nI D) t = 0 := by simp only [e_tide, a, b, c, hcD, eR, not_true_eq_false, if_false, and_self]
        have k2 := cd_tell (g := g) (A := A) (z := z) (s := s) (o := su o 60 0 0) (t := t) (a3 := none) hY hD eR (by omega)
        have k3 := cd_toldOn (g := g) (A := A) (z := z) (s := su (su s 34 (24 * D + R) t) 35 D (nI (R + 1))) (o := su o 60 0 0) hY hD
        have e35 : su (su s 34 (24 * D + R) t) 35 D (nI (R + 1)) 35 D = nI (R + 1) := by simp [su]
        rw [e35] at k3
        have e : cp A z (f_tide s (nI D) t) (su o 60 0 0) = cp A z (su (su s 34 (24 * D + R) t) 35 D (nI (R + 1))) (su o 60 0 0) := cp_x hY (fun F j h0 h36 _ _ h4 => by simp only [f_tide, e0, if_true, su_get, h0, h36, h4, hcD, eR, hcR, nI_1, false_and, if_false])
        have er : r_tide s (nI D) t = nI (R + 1) := by simp only [r_tide, e0, if_true, hcD, eR, nI_1]
        rw [e0, if_pos rfl, e, er]
        rw [eR] at k1
        simp only [e_X9_tide_0, e_X9_tide_4, e_X9_tide_7, e_X9_tide_18, e_X9_tide_19, e_X9_tide_25, e_X9_tide_28, e_X9_tide_39, e_X9_tide_42, e_X9_tide_46, e_X9_tide_48, e_X9_tide_51, e_X9_tide_62, e_X9_tide_63, e_X9_tide_66, e_X9_tide_67, e_X9_tide_70, e_X9_tide_71, e_X9_tide_75, e_X9_tide_76, e_X9_tide_79, e_X9_tide_83, e_X9_tide_17, e_X9_tide_38, e_X9_tide_61, cO_0 hY, cg_0_3 hY, hb_0 hY, cw_0_14 hY, rP_n, rS_n, xrd_rP, xrd_rS, xfit_rP, xfit_rS, xcat_rP, xcat_rS, nem, su_get, z1e0, z2e0, z3e0, z4e0, z5e0, z0e1, zme0, Nat.reduceEqDiff, not_true_eq_false, and_self, false_or, or_false, or_self,  bI_eq0, bI_eq1, i10, i20, i30, i00, ne_eq, Decidable.not_not, true_and, and_true, false_and, and_false, xrd_ref, xrd_null, xrd_rf, xid_int, xcat_int, xcat_ref, xcat_null, xcat_long, xcat_rf, xfit_int, xfit_0, xfit_1, xfit_ref, xfit_null, xfit_rf, not_false_eq_true, ↓reduceIte, z01_0, z01_1, bI_01, true_or, or_true, c_X9_tide_1 cd_isDay, c_X9_tide_22 cd_within, c_X9_tide_43 (cO_13 hY) k1, c_X9_tide_72 (cO_13 hY) k2, c_X9_tide_80 (cO_13 hY) k3, a, b, n1]
    · have e2 : e_tide s (nI D) t = 2 := by simp only [e_tide, a, b, not_true_eq_false, if_false, and_self, not_false_eq_true, if_true]
      rw [e2, if_neg (by decide), if_neg (by decide), if_pos rfl]
      simp only [e_X9_tide_0, e_X9_tide_4, e_X9_tide_7, e_X9_tide_18, e_X9_tide_19, e_X9_tide_25, e_X9_tide_28, e_X9_tide_39, e_X9_tide_42, e_X9_tide_46, e_X9_tide_48, e_X9_tide_51, e_X9_tide_62, e_X9_tide_63, e_X9_tide_66, e_X9_tide_67, e_X9_tide_70, e_X9_tide_71, e_X9_tide_75, e_X9_tide_76, e_X9_tide_79, e_X9_tide_83, e_X9_tide_17, e_X9_tide_38, e_X9_tide_61, cO_0 hY, cg_0_3 hY, hb_0 hY, cw_0_14 hY, rP_n, rS_n, xrd_rP, xrd_rS, xfit_rP, xfit_rS, xcat_rP, xcat_rS, nem, su_get, z1e0, z2e0, z3e0, z4e0, z5e0, z0e1, zme0, Nat.reduceEqDiff, not_true_eq_false, and_self, false_or, or_false, or_self,  bI_eq0, bI_eq1, i10, i20, i30, i00, ne_eq, Decidable.not_not, true_and, and_true, false_and, and_false, xrd_ref, xrd_null, xrd_rf, xid_int, xcat_int, xcat_ref, xcat_null, xcat_long, xcat_rf, xfit_int, xfit_0, xfit_1, xfit_ref, xfit_null, xfit_rf, not_false_eq_true, ↓reduceIte, z01_0, z01_1, bI_01, true_or, or_true, c_X9_tide_1 cd_isDay, c_X9_tide_22 cd_within, a, b, rm, bmp]
  · have e1 : e_tide s d t = 1 := by simp only [e_tide, a, not_false_eq_true, if_true]
    rw [e1, if_neg (by decide), if_pos rfl]
    simp only [e_X9_tide_0, e_X9_tide_4, e_X9_tide_7, e_X9_tide_18, e_X9_tide_19, e_X9_tide_25, e_X9_tide_28, e_X9_tide_39, e_X9_tide_42, e_X9_tide_46, e_X9_tide_48, e_X9_tide_51, e_X9_tide_62, e_X9_tide_63, e_X9_tide_66, e_X9_tide_67, e_X9_tide_70, e_X9_tide_71, e_X9_tide_75, e_X9_tide_76, e_X9_tide_79, e_X9_tide_83, e_X9_tide_17, e_X9_tide_38, e_X9_tide_61, cO_0 hY, cg_0_3 hY, hb_0 hY, cw_0_14 hY, rP_n, rS_n, xrd_rP, xrd_rS, xfit_rP, xfit_rS, xcat_rP, xcat_rS, nem, su_get, z1e0, z2e0, z3e0, z4e0, z5e0, z0e1, zme0, Nat.reduceEqDiff, not_true_eq_false, and_self, false_or, or_false, or_self,  bI_eq0, bI_eq1, i10, i20, i30, i00, ne_eq, Decidable.not_not, true_and, and_true, false_and, and_false, xrd_ref, xrd_null, xrd_rf, xid_int, xcat_int, xcat_ref, xcat_null, xcat_long, xcat_rf, xfit_int, xfit_0, xfit_1, xfit_ref, xfit_null, xfit_rf, not_false_eq_true, ↓reduceIte, z01_0, z01_1, bI_01, true_or, or_true, c_X9_tide_1 cd_isDay, a, rm, bmp]
theorem cd_will {p v : Int32} {a3 a4 : Option Value} (hz : zo g A z o P S) (hP : s 2 0 = nI P) (hv : v = 0 ∨ v = 1) : Ev g 64 0 [some (.ref (A 0 0)), some (.int p), some (.int v), a3, a4] [] (cp A z s o) (if e_will s p = 0 then (.inl (some (.int (r_will s p v))), cp A z (f_will s p v) (su o 60 0 0)) else (.inr 1, bmp (cp A z s o))) := by
  have hY := hz.1
  have h6 := hY.2.2.2.2.2.1.1
  by_cases a : 0 ≤ p ∧ p < s 2 0
  · have e0 : e_will s p = 0 := by simp only [e_will, a, and_self, if_true]
    rw [hP] at a
    obtain ⟨p, hp, rfl⟩ := of_in (n := P) (nI_toInt (by omega)) a
    have hcp : (nI p).toNatClampNeg = p := nI_clamp (by omega)
    have k1 := cd_pn (g := g) (s := s) (o := o) hY hP hz.2.1.1 hp
    have e : cp A z (f_will s (nI p) v) (su o 60 0 0) = cp A z (su s 6 p v) (su o 60 0 0) := cp_x hY (fun F j h0 _ _ _ h4 => by simp only [f_will, e0, if_true, su_get, h0, h4, hcp, false_and, if_false])
    have fv : xfit 1 (.int v) = true := by rcases hv with rfl | rfl <;> rfl
    rw [e0, if_pos rfl, e]
    unfold r_will
    rw [if_pos e0, hcp]
    by_cases w : s 6 p = v
    · simp only [e_X9_will_0, e_X9_will_1, e_X9_will_5, e_X9_will_6, e_X9_will_7, e_X9_will_8, e_X9_will_11, e_X9_will_12, e_X9_will_15, e_X9_will_16, e_X9_will_19, e_X9_will_20, e_X9_will_23, e_X9_will_24, e_X9_will_26, e_X9_will_27, e_X9_will_28, e_X9_will_31, e_X9_will_33, cO_0 hY, hb_0 hY, cw_0_14 hY, cO_30 hY, cg_30_8 hY, hb_30 hY, cw_30_8 hY, rP_n, rS_n, xrd_rP, xrd_rS, xfit_rP, xfit_rS, xcat_rP, xcat_rS, nem, su_get, z1e0, z2e0, z3e0, z4e0, z5e0, z0e1, zme0, Nat.reduceEqDiff, not_true_eq_false, and_self, false_or, or_false, or_self,  bI_eq0, bI_eq1, i10, i20, i30, i00, ne_eq, Decidable.not_not, true_and, and_true, false_and, and_false, xrd_ref, xrd_null, xrd_rf, xid_int, xcat_int, xcat_ref, xcat_null, xcat_long, xcat_rf, xfit_int, xfit_0, xfit_1, xfit_ref, xfit_null, xfit_rf, not_false_eq_true, ↓reduceIte, z01_0, z01_1, bI_01, true_or, or_true, c_X9_will_2 (cO_0 hY) k1, hp, w, fv, bI]
    · simp only [e_X9_will_0, e_X9_will_1, e_X9_will_5, e_X9_will_6, e_X9_will_7, e_X9_will_8, e_X9_will_11, e_X9_will_12, e_X9_will_15, e_X9_will_16, e_X9_will_19, e_X9_will_20, e_X9_will_23, e_X9_will_24, e_X9_will_26, e_X9_will_27, e_X9_will_28, e_X9_will_31, e_X9_will_33, cO_0 hY, hb_0 hY, cw_0_14 hY, cO_30 hY, cg_30_8 hY, hb_30 hY, cw_30_8 hY, rP_n, rS_n, xrd_rP, xrd_rS, xfit_rP, xfit_rS, xcat_rP, xcat_rS, nem, su_get, z1e0, z2e0, z3e0, z4e0, z5e0, z0e1, zme0, Nat.reduceEqDiff, not_true_eq_false, and_self, false_or, or_false, or_self,  bI_eq0, bI_eq1, i10, i20, i30, i00, ne_eq, Decidable.not_not, true_and, and_true, false_and, and_false, xrd_ref, xrd_null, xrd_rf, xid_int, xcat_int, xcat_ref, xcat_null, xcat_long, xcat_rf, xfit_int, xfit_0, xfit_1, xfit_ref, xfit_null, xfit_rf, not_false_eq_true, ↓reduceIte, z01_0, z01_1, bI_01, true_or, or_true, c_X9_will_2 (cO_0 hY) k1, hp, w, fv, bI]
  · have e1 : e_will s p = 1 := by simp only [e_will, a, if_false]
    have k1 := cd_pnX (g := g) (s := s) (o := o) hY a
    rw [e1, if_neg (by decide)]
    simp only [e_X9_will_0, e_X9_will_1, e_X9_will_5, e_X9_will_6, e_X9_will_7, e_X9_will_8, e_X9_will_11, e_X9_will_12, e_X9_will_15, e_X9_will_16, e_X9_will_19, e_X9_will_20, e_X9_will_23, e_X9_will_24, e_X9_will_26, e_X9_will_27, e_X9_will_28, e_X9_will_31, e_X9_will_33, cO_0 hY, hb_0 hY, cw_0_14 hY, cO_30 hY, cg_30_8 hY, hb_30 hY, cw_30_8 hY, rP_n, rS_n, xrd_rP, xrd_rS, xfit_rP, xfit_rS, xcat_rP, xcat_rS, nem, su_get, z1e0, z2e0, z3e0, z4e0, z5e0, z0e1, zme0, Nat.reduceEqDiff, not_true_eq_false, and_self, false_or, or_false, or_self,  bI_eq0, bI_eq1, i10, i20, i30, i00, ne_eq, Decidable.not_not, true_and, and_true, false_and, and_false, xrd_ref, xrd_null, xrd_rf, xid_int, xcat_int, xcat_ref, xcat_null, xcat_long, xcat_rf, xfit_int, xfit_0, xfit_1, xfit_ref, xfit_null, xfit_rf, not_false_eq_true, ↓reduceIte, z01_0, z01_1, bI_01, true_or, or_true, t_X9_will_2 (cO_0 hY) k1, bmp]
theorem cd_off {p d v : Int32} {a4 : Option Value} (hz : zo g A z o P S) (hP : s 2 0 = nI P) (hv : v = 0 ∨ v = 1) : Ev g 63 0 [some (.ref (A 0 0)), some (.int p), some (.int d), some (.int v), a4] [] (cp A z s o) (if e_off s p d = 0 then (.inl (some (.int (r_off s p d v))), cp A z (f_off s p d v) (soO s (su o 60 0 0) p.toNatClampNeg d.toNatClampNeg v)) else (.inr 1, bmp (cp A z s o))) := by
  have hY := hz.1
  have h6 := hY.2.2.2.2.2.1.1
  have rm := zrm (s := s) (o := o) hY (show 6 ≤ 100000 by decide)
  by_cases a : 0 ≤ p ∧ p < s 2 0
  · have a' := a
    rw [hP] at a
    obtain ⟨p, hp, rfl⟩ := of_in (n := P) (nI_toInt (by omega)) a
    have hcp : (nI p).toNatClampNeg = p := nI_clamp (by omega)
    have k1 := cd_pn (g := g) (s := s) (o := o) hY hP hz.2.1.1 hp
    by_cases b : 0 ≤ d ∧ d < 400
    · have e0 : e_off s (nI p) d = 0 := by simp only [e_off, a', b, and_self, if_true]
      obtain ⟨D, hD, rfl⟩ := of_in (n := 400) (by decide) b
      have hcD : (nI D).toNatClampNeg = D := nI_clamp (by omega)
      have k2 := cd_setOff (g := g) (A := A) (z := z) (s := s) (o := su o 60 0 0) (v := v) hY hp hD hv
      have e : cp A z (f_off s (nI p) (nI D) v) (soO s (su o 60 0 0) p D v) = cp A z (su s 7 (400 * p + D) v) (soO s (su o 60 0 0) p D v) := cp_x hY (fun F j h0 _ _ _ h4 => by simp only [f_off, e0, if_true, su_get, h0, h4, hcp, hcD, false_and, if_false])
      rw [e0, if_pos rfl, hcp, hcD, e]
      unfold r_off
      rw [if_pos e0, hcp, hcD]
      simp only [e_X9_off_0, e_X9_off_1, e_X9_off_5, e_X9_off_7, e_X9_off_11, e_X9_off_14, e_X9_off_25, e_X9_off_26, e_X9_off_29, e_X9_off_31, e_X9_off_32, e_X9_off_36, e_X9_off_24, cO_0 hY, hb_0 hY, cw_0_14 hY, rP_n, rS_n, xrd_rP, xrd_rS, xfit_rP, xfit_rS, xcat_rP, xcat_rS, nem, su_get, z1e0, z2e0, z3e0, z4e0, z5e0, z0e1, zme0, Nat.reduceEqDiff, not_true_eq_false, and_self, false_or, or_false, or_self,  bI_eq0, bI_eq1, i10, i20, i30, i00, ne_eq, Decidable.not_not, true_and, and_true, false_and, and_false, xrd_ref, xrd_null, xrd_rf, xid_int, xcat_int, xcat_ref, xcat_null, xcat_long, xcat_rf, xfit_int, xfit_0, xfit_1, xfit_ref, xfit_null, xfit_rf, not_false_eq_true, ↓reduceIte, z01_0, z01_1, bI_01, true_or, or_true, c_X9_off_2 (cO_0 hY) k1, c_X9_off_8 cd_isDay, c_X9_off_33 (cO_30 hY hp) k2, hp, b]
      rw [e_X9_off_36 (bI_01 _)]
    · have e1 : e_off s (nI p) d = 1 := by simp only [e_off, b, and_false, if_false]
      rw [e1, if_neg (by decide)]
      simp only [e_X9_off_0, e_X9_off_1, e_X9_off_5, e_X9_off_7, e_X9_off_11, e_X9_off_14, e_X9_off_25, e_X9_off_26, e_X9_off_29, e_X9_off_31, e_X9_off_32, e_X9_off_36, e_X9_off_24, cO_0 hY, hb_0 hY, cw_0_14 hY, rP_n, rS_n, xrd_rP, xrd_rS, xfit_rP, xfit_rS, xcat_rP, xcat_rS, nem, su_get, z1e0, z2e0, z3e0, z4e0, z5e0, z0e1, zme0, Nat.reduceEqDiff, not_true_eq_false, and_self, false_or, or_false, or_self,  bI_eq0, bI_eq1, i10, i20, i30, i00, ne_eq, Decidable.not_not, true_and, and_true, false_and, and_false, xrd_ref, xrd_null, xrd_rf, xid_int, xcat_int, xcat_ref, xcat_null, xcat_long, xcat_rf, xfit_int, xfit_0, xfit_1, xfit_ref, xfit_null, xfit_rf, not_false_eq_true, ↓reduceIte, z01_0, z01_1, bI_01, true_or, or_true, c_X9_off_2 (cO_0 hY) k1, c_X9_off_8 cd_isDay, b, rm, bmp]
  · have e1 : e_off s p d = 1 := by simp only [e_off, a, false_and, if_false]
    have k1 := cd_pnX (g := g) (s := s) (o := o) hY a
    rw [e1, if_neg (by decide)]
    simp only [e_X9_off_0, e_X9_off_1, e_X9_off_5, e_X9_off_7, e_X9_off_11, e_X9_off_14, e_X9_off_25, e_X9_off_26, e_X9_off_29, e_X9_off_31, e_X9_off_32, e_X9_off_36, e_X9_off_24, cO_0 hY, hb_0 hY, cw_0_14 hY, rP_n, rS_n, xrd_rP, xrd_rS, xfit_rP, xfit_rS, xcat_rP, xcat_rS, nem, su_get, z1e0, z2e0, z3e0, z4e0, z5e0, z0e1, zme0, Nat.reduceEqDiff, not_true_eq_false, and_self, false_or, or_false, or_self,  bI_eq0, bI_eq1, i10, i20, i30, i00, ne_eq, Decidable.not_not, true_and, and_true, false_and, and_false, xrd_ref, xrd_null, xrd_rf, xid_int, xcat_int, xcat_ref, xcat_null, xcat_long, xcat_rf, xfit_int, xfit_0, xfit_1, xfit_ref, xfit_null, xfit_rf, not_false_eq_true, ↓reduceIte, z01_0, z01_1, bI_01, true_or, or_true, t_X9_off_2 (cO_0 hY) k1, bmp]
/-- a boat's seats by the clock, from i on, f clocks more -/
def abO (c n : Int32) : Nat → Nat → mS → mS
  | 0, _, o => o
  | f + 1, i, o => abO c n f (i + 1) (if (c >>> (nI i &&& 31)) &&& 1 = 1 then su o 62 i (o 62 i + n) else o)
theorem abO_o (c n : Int32) : ∀ (f i : Nat) (o : mS) (F j : Nat), F ≠ 62 ∨ j < i → abO c n f i o F j = o F j := by
  intro f
  induction f with
  | zero => intros; rfl
  | succ f ih =>
    intro i o F j h
    rw [abO, ih _ _ _ _ (by omega)]
    split
    · rw [su_get, if_neg (by omega)]
    · rfl
theorem abO_62 (c n : Int32) : ∀ (f i : Nat) (o : mS) (j : Nat), i ≤ j → j < i + f → abO c n f i o 62 j = o 62 j + (if (c >>> (nI j &&& 31)) &&& 1 = 1 then n else 0) := by
  intro f
  induction f with
  | zero => intro i o j h1 h2; omega
  | succ f ih =>
    intro i o j h1 h2
    rw [abO]
    by_cases e : j = i
    · subst e
      rw [abO_o _ _ _ _ _ _ _ (Or.inr (by omega))]
      split
      · simp [su]
      · rw [Int32.add_zero]
    · rw [ih (i + 1) _ j (by omega) (by omega)]
      congr 1
      split
      · rw [su_get, if_neg (fun q => e q.2)]
      · rfl
theorem lp_addBoat {c n : Int32} (hY : zok g A z P S) : ∀ (f i : Nat) (o : mS), i + f = 24 → Ev g 18 2 [some (.ref (A 16 0)), some (.int c), some (.int n), some (.int (nI i))] [] (cp A z s o) (.inl none, cp A z (su s 37 0 (s 37 0 + 1)) (abO c n f i o)) := by
  intro f
  induction f with
  | zero =>
    intro i o hi
    have h2 : nI 24 ≤ nI i := nI_le (by omega) (by omega)
    simp only [e_X1_addBoat_0, e_X1_addBoat_1, e_X1_addBoat_2, e_X1_addBoat_3, e_X1_addBoat_4, e_X1_addBoat_7, e_X1_addBoat_8, e_X1_addBoat_11, e_X1_addBoat_12, e_X1_addBoat_13, e_X1_addBoat_14, e_X1_addBoat_15, e_X1_addBoat_16, e_X1_addBoat_17, e_X1_addBoat_20, e_X1_addBoat_21, e_X1_addBoat_24, e_X1_addBoat_25, e_X1_addBoat_26, e_X1_addBoat_27, e_X1_addBoat_28, e_X1_addBoat_29, e_X1_addBoat_30, e_X1_addBoat_33, e_X1_addBoat_36, e_X1_addBoat_37, e_X1_addBoat_38, e_X1_addBoat_41, e_X1_addBoat_42, e_X1_addBoat_43, e_X1_addBoat_46, cO_16 hY, cg_16_0 hY, cA_17 hY, cl_17 hY, ce_17 hY, cw_17 hY, hb_17 hY, e_X1_addBoat_7 (cc_at_17 hY), cg_16_1 hY, hb_16 hY, cw_16_1 hY, rP_n, rS_n, xrd_rP, xrd_rS, xfit_rP, xfit_rS, xcat_rP, xcat_rS, nem, su_get, z1e0, z2e0, z3e0, z4e0, z5e0, z0e1, zme0, Nat.reduceEqDiff, not_true_eq_false, and_self, false_or, or_false, or_self,  bI_eq0, bI_eq1, i10, i20, i30, i00, ne_eq, Decidable.not_not, true_and, and_true, false_and, and_false, xrd_ref, xrd_null, xrd_rf, xid_int, xcat_int, xcat_ref, xcat_null, xcat_long, xcat_rf, xfit_int, xfit_0, xfit_1, xfit_ref, xfit_null, xfit_rf, not_false_eq_true, ↓reduceIte, z01_0, z01_1, bI_01, true_or, or_true, h2, abO]
  | succ f ih =>
    intro i o hi
    have h2 : ¬ nI 24 ≤ nI i := nI_ge (by omega) (by omega)
    have hn_i : ¬ nI i < 0 := nI_pos (by omega)
    have hc_i : (nI i).toNatClampNeg = i := nI_clamp (by omega)
    have hb_i : ¬ 24 ≤ i := by omega
    rw [e_X1_addBoat_2 rfl, abO]
    by_cases e : (c >>> (nI i &&& 31)) &&& 1 = 1
    · rw [if_pos e]
      simp only [e_X1_addBoat_3, e_X1_addBoat_4, e_X1_addBoat_7, e_X1_addBoat_8, e_X1_addBoat_11, e_X1_addBoat_12, e_X1_addBoat_13, e_X1_addBoat_14, e_X1_addBoat_15, e_X1_addBoat_16, e_X1_addBoat_17, e_X1_addBoat_20, e_X1_addBoat_21, e_X1_addBoat_24, e_X1_addBoat_25, e_X1_addBoat_26, e_X1_addBoat_27, e_X1_addBoat_28, e_X1_addBoat_29, e_X1_addBoat_30, e_X1_addBoat_33, e_X1_addBoat_36, e_X1_addBoat_37, e_X1_addBoat_38, e_X1_addBoat_41, e_X1_addBoat_42, e_X1_addBoat_43, e_X1_addBoat_46, cO_16 hY, cg_16_0 hY, cA_17 hY, cl_17 hY, ce_17 hY, cw_17 hY, hb_17 hY, e_X1_addBoat_7 (cc_at_17 hY), cg_16_1 hY, hb_16 hY, cw_16_1 hY, rP_n, rS_n, xrd_rP, xrd_rS, xfit_rP, xfit_rS, xcat_rP, xcat_rS, nem, su_get, z1e0, z2e0, z3e0, z4e0, z5e0, z0e1, zme0, Nat.reduceEqDiff, not_true_eq_false, and_self, false_or, or_false, or_self,  bI_eq0, bI_eq1, i10, i20, i30, i00, ne_eq, Decidable.not_not, true_and, and_true, false_and, and_false, xrd_ref, xrd_null, xrd_rf, xid_int, xcat_int, xcat_ref, xcat_null, xcat_long, xcat_rf, xfit_int, xfit_0, xfit_1, xfit_ref, xfit_null, xfit_rf, not_false_eq_true, ↓reduceIte, z01_0, z01_1, bI_01, true_or, or_true, h2, hn_i, hc_i, hb_i, e, nI_1]
      exact ih (i + 1) _ (by omega)
    · rw [if_neg e]
      simp only [e_X1_addBoat_3, e_X1_addBoat_4, e_X1_addBoat_7, e_X1_addBoat_8, e_X1_addBoat_11, e_X1_addBoat_12, e_X1_addBoat_13, e_X1_addBoat_14, e_X1_addBoat_15, e_X1_addBoat_16, e_X1_addBoat_17, e_X1_addBoat_20, e_X1_addBoat_21, e_X1_addBoat_24, e_X1_addBoat_25, e_X1_addBoat_26, e_X1_addBoat_27, e_X1_addBoat_28, e_X1_addBoat_29, e_X1_addBoat_30, e_X1_addBoat_33, e_X1_addBoat_36, e_X1_addBoat_37, e_X1_addBoat_38, e_X1_addBoat_41, e_X1_addBoat_42, e_X1_addBoat_43, e_X1_addBoat_46, cO_16 hY, cg_16_0 hY, cA_17 hY, cl_17 hY, ce_17 hY, cw_17 hY, hb_17 hY, e_X1_addBoat_7 (cc_at_17 hY), cg_16_1 hY, hb_16 hY, cw_16_1 hY, rP_n, rS_n, xrd_rP, xrd_rS, xfit_rP, xfit_rS, xcat_rP, xcat_rS, nem, su_get, z1e0, z2e0, z3e0, z4e0, z5e0, z0e1, zme0, Nat.reduceEqDiff, not_true_eq_false, and_self, false_or, or_false, or_self,  bI_eq0, bI_eq1, i10, i20, i30, i00, ne_eq, Decidable.not_not, true_and, and_true, false_and, and_false, xrd_ref, xrd_null, xrd_rf, xid_int, xcat_int, xcat_ref, xcat_null, xcat_long, xcat_rf, xfit_int, xfit_0, xfit_1, xfit_ref, xfit_null, xfit_rf, not_false_eq_true, ↓reduceIte, z01_0, z01_1, bI_01, true_or, or_true, h2, hn_i, hc_i, hb_i, e, nI_1]
      exact ih (i + 1) _ (by omega)
theorem cd_addBoat {c n : Int32} {a3 : Option Value} (hY : zok g A z P S) : Ev g 18 0 [some (.ref (A 16 0)), some (.int c), some (.int n), a3] [] (cp A z s o) (.inl none, cp A z (su s 37 0 (s 37 0 + 1)) (abO c n 24 0 o)) := by
  have := lp_addBoat (g := g) (A := A) (z := z) (s := s) (c := c) (n := n) hY 24 0 o (by omega)
  rw [nI_0] at this
  simp only [e_X1_addBoat_0, e_X1_addBoat_1, nem, su_get, z1e0, z2e0, z3e0, z4e0, z5e0, z0e1, zme0, Nat.reduceEqDiff, not_true_eq_false, and_self, false_or, or_false, or_self,  bI_eq0, bI_eq1, i10, i20, i30, i00, ne_eq, Decidable.not_not, true_and, and_true, false_and, and_false, xrd_ref, xrd_null, xrd_rf, xid_int, xcat_int, xcat_ref, xcat_null, xcat_long, xcat_rf, xfit_int, xfit_0, xfit_1, xfit_ref, xfit_null, xfit_rf, not_false_eq_true, ↓reduceIte, z01_0, z01_1, bI_01, true_or, or_true]
  exact this
theorem cd_boat {c n : Int32} {B : Nat} (hY : zok g A z P S) (hB : s 37 0 = nI B) (h12 : B ≤ 12) : Ev g 60 0 [some (.ref (A 0 0)), some (.int c), some (.int n)] [] (cp A z s o) (if e_boat s c n = 0 then (.inl (some (.int (r_boat s c n))), cp A z (f_boat s c n) (abO c n 24 0 (su o 60 0 0))) else (.inr (if e_boat s c n = 1 then 0 else 2), bmp (cp A z s o))) := by
  have rm := zrm (s := s) (o := o) hY (show 6 ≤ 100000 by decide)
  by_cases a : 0 ≤ c ∧ c ≤ 16777215
  · by_cases b : 1 ≤ n ∧ n ≤ 20
    · by_cases e : nI B = 12
      · have e2 : e_boat s c n = 2 := by simp only [e_boat, a, b, hB, e, and_self, not_true_eq_false, if_false, if_true]
        have n1 : ¬ nI B < 12 := by rw [e]; decide
        rw [e2, if_neg (by decide), if_neg (by decide)]
        simp only [e_X9_boat_0, e_X9_boat_1, e_X9_boat_2, e_X9_boat_7, e_X9_boat_10, e_X9_boat_11, e_X9_boat_12, e_X9_boat_17, e_X9_boat_20, e_X9_boat_31, e_X9_boat_34, e_X9_boat_37, e_X9_boat_39, e_X9_boat_42, e_X9_boat_53, e_X9_boat_54, e_X9_boat_57, e_X9_boat_58, e_X9_boat_61, e_X9_boat_62, e_X9_boat_66, e_X9_boat_67, e_X9_boat_70, e_X9_boat_73, e_X9_boat_74, e_X9_boat_75, e_X9_boat_30, e_X9_boat_52, cO_0 hY, cg_0_4 hY, cO_16 hY, cg_16_1 hY, hb_0 hY, cw_0_14 hY, rP_n, rS_n, xrd_rP, xrd_rS, xfit_rP, xfit_rS, xcat_rP, xcat_rS, cO_16 hY, cg_16_1 hY, nem, su_get, z1e0, z2e0, z3e0, z4e0, z5e0, z0e1, zme0, Nat.reduceEqDiff, not_true_eq_false, and_self, false_or, or_false, or_self,  bI_eq0, bI_eq1, i10, i20, i30, i00, ne_eq, Decidable.not_not, true_and, and_true, false_and, and_false, xrd_ref, xrd_null, xrd_rf, xid_int, xcat_int, xcat_ref, xcat_null, xcat_long, xcat_rf, xfit_int, xfit_0, xfit_1, xfit_ref, xfit_null, xfit_rf, not_false_eq_true, ↓reduceIte, z01_0, z01_1, bI_01, true_or, or_true, c_X9_boat_4 cd_within, c_X9_boat_14 cd_within, a, b, hB, n1, rm, bmp]
      · have e' := nI_ne (a := B) (b := 12) (by rw [nI_12]; exact e)
        have e0 : e_boat s c n = 0 := by simp only [e_boat, a, b, hB, e, and_self, not_true_eq_false, if_false]
        have n1 : nI B < 12 := by rw [← nI_12]; exact nI_lt (by omega) (by decide)
        have k1 := cd_addBoat (g := g) (A := A) (z := z) (s := s) (o := su o 60 0 0) (c := c) (n := n) (a3 := none) hY
        have e9 : cp A z (f_boat s c n) (abO c n 24 0 (su o 60 0 0)) = cp A z (su s 37 0 (s 37 0 + 1)) (abO c n 24 0 (su o 60 0 0)) := cp_x hY (fun F j h0 _ h38 h39 h4 => by simp only [f_boat, e0, if_true, su_get, h0, h38, h39, h4, false_and, if_false])
        rw [e0, if_pos rfl, e9]
        unfold r_boat
        rw [if_pos e0]
        simp only [e_X9_boat_0, e_X9_boat_1, e_X9_boat_2, e_X9_boat_7, e_X9_boat_10, e_X9_boat_11, e_X9_boat_12, e_X9_boat_17, e_X9_boat_20, e_X9_boat_31, e_X9_boat_34, e_X9_boat_37, e_X9_boat_39, e_X9_boat_42, e_X9_boat_53, e_X9_boat_54, e_X9_boat_57, e_X9_boat_58, e_X9_boat_61, e_X9_boat_62, e_X9_boat_66, e_X9_boat_67, e_X9_boat_70, e_X9_boat_73, e_X9_boat_74, e_X9_boat_75, e_X9_boat_30, e_X9_boat_52, cO_0 hY, cg_0_4 hY, cO_16 hY, cg_16_1 hY, hb_0 hY, cw_0_14 hY, rP_n, rS_n, xrd_rP, xrd_rS, xfit_rP, xfit_rS, xcat_rP, xcat_rS, cO_16 hY, cg_16_1 hY, nem, su_get, z1e0, z2e0, z3e0, z4e0, z5e0, z0e1, zme0, Nat.reduceEqDiff, not_true_eq_false, and_self, false_or, or_false, or_self,  bI_eq0, bI_eq1, i10, i20, i30, i00, ne_eq, Decidable.not_not, true_and, and_true, false_and, and_false, xrd_ref, xrd_null, xrd_rf, xid_int, xcat_int, xcat_ref, xcat_null, xcat_long, xcat_rf, xfit_int, xfit_0, xfit_1, xfit_ref, xfit_null, xfit_rf, not_false_eq_true, ↓reduceIte, z01_0, z01_1, bI_01, true_or, or_true, c_X9_boat_4 cd_within, c_X9_boat_14 cd_within, c_X9_boat_63 (cO_16 hY) k1, a, b, hB, n1]
    · have e1 : e_boat s c n = 1 := by simp only [e_boat, b, and_false, not_false_eq_true, if_true]
      rw [e1, if_neg (by decide), if_pos rfl]
      simp only [e_X9_boat_0, e_X9_boat_1, e_X9_boat_2, e_X9_boat_7, e_X9_boat_10, e_X9_boat_11, e_X9_boat_12, e_X9_boat_17, e_X9_boat_20, e_X9_boat_31, e_X9_boat_34, e_X9_boat_37, e_X9_boat_39, e_X9_boat_42, e_X9_boat_53, e_X9_boat_54, e_X9_boat_57, e_X9_boat_58, e_X9_boat_61, e_X9_boat_62, e_X9_boat_66, e_X9_boat_67, e_X9_boat_70, e_X9_boat_73, e_X9_boat_74, e_X9_boat_75, e_X9_boat_30, e_X9_boat_52, cO_0 hY, cg_0_4 hY, cO_16 hY, cg_16_1 hY, hb_0 hY, cw_0_14 hY, rP_n, rS_n, xrd_rP, xrd_rS, xfit_rP, xfit_rS, xcat_rP, xcat_rS, nem, su_get, z1e0, z2e0, z3e0, z4e0, z5e0, z0e1, zme0, Nat.reduceEqDiff, not_true_eq_false, and_self, false_or, or_false, or_self,  bI_eq0, bI_eq1, i10, i20, i30, i00, ne_eq, Decidable.not_not, true_and, and_true, false_and, and_false, xrd_ref, xrd_null, xrd_rf, xid_int, xcat_int, xcat_ref, xcat_null, xcat_long, xcat_rf, xfit_int, xfit_0, xfit_1, xfit_ref, xfit_null, xfit_rf, not_false_eq_true, ↓reduceIte, z01_0, z01_1, bI_01, true_or, or_true, c_X9_boat_4 cd_within, c_X9_boat_14 cd_within, a, b, rm, bmp]
  · have e1 : e_boat s c n = 1 := by simp only [e_boat, a, false_and, not_false_eq_true, if_true]
    rw [e1, if_neg (by decide), if_pos rfl]
    simp only [e_X9_boat_0, e_X9_boat_1, e_X9_boat_2, e_X9_boat_7, e_X9_boat_10, e_X9_boat_11, e_X9_boat_12, e_X9_boat_17, e_X9_boat_20, e_X9_boat_31, e_X9_boat_34, e_X9_boat_37, e_X9_boat_39, e_X9_boat_42, e_X9_boat_53, e_X9_boat_54, e_X9_boat_57, e_X9_boat_58, e_X9_boat_61, e_X9_boat_62, e_X9_boat_66, e_X9_boat_67, e_X9_boat_70, e_X9_boat_73, e_X9_boat_74, e_X9_boat_75, e_X9_boat_30, e_X9_boat_52, cO_0 hY, cg_0_4 hY, cO_16 hY, cg_16_1 hY, hb_0 hY, cw_0_14 hY, rP_n, rS_n, xrd_rP, xrd_rS, xfit_rP, xfit_rS, xcat_rP, xcat_rS, nem, su_get, z1e0, z2e0, z3e0, z4e0, z5e0, z0e1, zme0, Nat.reduceEqDiff, not_true_eq_false, and_self, false_or, or_false, or_self,  bI_eq0, bI_eq1, i10, i20, i30, i00, ne_eq, Decidable.not_not, true_and, and_true, false_and, and_false, xrd_ref, xrd_null, xrd_rf, xid_int, xcat_int, xcat_ref, xcat_null, xcat_long, xcat_rf, xfit_int, xfit_0, xfit_1, xfit_ref, xfit_null, xfit_rf, not_false_eq_true, ↓reduceIte, z01_0, z01_1, bI_01, true_or, or_true, c_X9_boat_4 cd_within, a, rm, bmp]
end ST
