/-! ===== the reference's calls that only set ===== -/
theorem su_get (s : mS) (k j : Nat) (v : Int32) (k2 j2 : Nat) : su s k j v k2 j2 = if k2 = k ∧ j2 = j then v else s k2 j2 := rfl
theorem bI_eq0 (p : Prop) [Decidable p] : (bI p = 0) = ¬ p := by unfold bI; split <;> simp [*]
theorem bI_eq1 (p : Prop) [Decidable p] : (bI p = 1) = p := by unfold bI; split <;> simp [*]
theorem nem (p : Prop) [Decidable p] : (¬ p ∨ p) = True := by by_cases h : p <;> simp [h]
theorem z1e0 : ((1 : Int32) = 0) = False := by decide
theorem z2e0 : ((2 : Int32) = 0) = False := by decide
theorem z3e0 : ((3 : Int32) = 0) = False := by decide
theorem z4e0 : ((4 : Int32) = 0) = False := by decide
theorem z5e0 : ((5 : Int32) = 0) = False := by decide
theorem z0e1 : ((0 : Int32) = 1) = False := by decide
theorem zme0 : ((-1 : Int32) = 0) = False := by decide
theorem hmk {a b : Nat} (h : a ≤ b) (k : Nat) : a ≤ b + 1 + k := Nat.le_trans h (Nat.le_trans (Nat.le_add_right _ _) (Nat.le_add_right _ _))
theorem i10 : ¬ (1 : Int32) ≤ 0 := by decide
theorem i20 : ¬ (2 : Int32) ≤ 0 := by decide
theorem i30 : ¬ (3 : Int32) ≤ 0 := by decide
theorem i00 : (0 : Int32) ≤ 0 := by decide
theorem i_in {v : Int32} {b : Nat} (h0 : 0 ≤ v) (h1 : v.toInt < b) : ¬ (v < 0 ∨ b ≤ v.toNatClampNeg) := by
  rintro (k | k)
  · exact Int32.not_le.mpr k h0
  · rw [← Int32.toNat_toInt] at k
    have := Int32.le_iff_toInt_le.mp h0
    simp at this
    omega
section MD
variable {g : Nat × Nat × Nat} {m0 : Nat} {s : mS} {h : xH}
theorem md_isPilot {p : Int32} : Ev g 113 0 [some (.ref m0), some (.int p)] [] (mput m0 s h) (.inl (some (.int (bI (0 ≤ p ∧ p < s 2 0)))), mput m0 s h) := by
  simp only [e_X10_isPilot_0, e_X10_isPilot_1, e_X10_isPilot_4, e_X10_isPilot_5, e_X10_isPilot_6, e_X10_isPilot_9, e_X10_isPilot_12, e_X10_isPilot_13, e_X10_isPilot_16, e_X10_isPilot_17, mO, mg_2, mp_2, nem, su_get, z1e0, z2e0, z3e0, z4e0, z5e0, z0e1, zme0, Nat.reduceEqDiff, not_true_eq_false, and_self, false_or, or_false, or_self,  bI_eq0, bI_eq1, i10, i20, i30, i00, ne_eq, Decidable.not_not, true_and, and_true, false_and, and_false, xrd_ref, xrd_null, xrd_rf, xid_int, xcat_int, xcat_ref, xcat_null, xcat_long, xcat_rf, xfit_int, xfit_0, xfit_1, xfit_ref, xfit_null, xfit_rf, not_false_eq_true, ↓reduceIte, z01_0, z01_1, bI_01, true_or, or_true]
  by_cases a : p < 0 <;> by_cases b : p < s 2 0 <;> simp [bI, a, b, Int32.not_lt.mp, Int32.not_le.mpr, e_X10_isPilot_0, e_X10_isPilot_1, e_X10_isPilot_4, e_X10_isPilot_5, e_X10_isPilot_6, e_X10_isPilot_9, e_X10_isPilot_12, e_X10_isPilot_13, e_X10_isPilot_16, e_X10_isPilot_17]
theorem md_isShip {p : Int32} : Ev g 114 0 [some (.ref m0), some (.int p)] [] (mput m0 s h) (.inl (some (.int (bI (0 ≤ p ∧ p < s 19 0)))), mput m0 s h) := by
  simp only [e_X10_isShip_0, e_X10_isShip_1, e_X10_isShip_4, e_X10_isShip_5, e_X10_isShip_6, e_X10_isShip_9, e_X10_isShip_12, e_X10_isShip_13, e_X10_isShip_16, e_X10_isShip_17, mO, mg_19, mp_19, nem, su_get, z1e0, z2e0, z3e0, z4e0, z5e0, z0e1, zme0, Nat.reduceEqDiff, not_true_eq_false, and_self, false_or, or_false, or_self,  bI_eq0, bI_eq1, i10, i20, i30, i00, ne_eq, Decidable.not_not, true_and, and_true, false_and, and_false, xrd_ref, xrd_null, xrd_rf, xid_int, xcat_int, xcat_ref, xcat_null, xcat_long, xcat_rf, xfit_int, xfit_0, xfit_1, xfit_ref, xfit_null, xfit_rf, not_false_eq_true, ↓reduceIte, z01_0, z01_1, bI_01, true_or, or_true]
  by_cases a : p < 0 <;> by_cases b : p < s 19 0 <;> simp [bI, a, b, Int32.not_lt.mp, Int32.not_le.mpr, e_X10_isShip_0, e_X10_isShip_1, e_X10_isShip_4, e_X10_isShip_5, e_X10_isShip_6, e_X10_isShip_9, e_X10_isShip_12, e_X10_isShip_13, e_X10_isShip_16, e_X10_isShip_17]
theorem md_isDay {p : Int32} : Ev g 115 0 [some (.int p)] [] h (.inl (some (.int (bI (0 ≤ p ∧ p < 400)))), h) := by
  simp only [e_X10_isDay_0, e_X10_isDay_1, e_X10_isDay_4, e_X10_isDay_5, e_X10_isDay_8, e_X10_isDay_11, e_X10_isDay_12, e_X10_isDay_15, e_X10_isDay_16, mO, nem, su_get, z1e0, z2e0, z3e0, z4e0, z5e0, z0e1, zme0, Nat.reduceEqDiff, not_true_eq_false, and_self, false_or, or_false, or_self,  bI_eq0, bI_eq1, i10, i20, i30, i00, ne_eq, Decidable.not_not, true_and, and_true, false_and, and_false, xrd_ref, xrd_null, xrd_rf, xid_int, xcat_int, xcat_ref, xcat_null, xcat_long, xcat_rf, xfit_int, xfit_0, xfit_1, xfit_ref, xfit_null, xfit_rf, not_false_eq_true, ↓reduceIte, z01_0, z01_1, bI_01, true_or, or_true]
  by_cases a : p < 0 <;> by_cases b : p < 400 <;> simp [bI, a, b, Int32.not_lt.mp, Int32.not_le.mpr, e_X10_isDay_0, e_X10_isDay_1, e_X10_isDay_4, e_X10_isDay_5, e_X10_isDay_8, e_X10_isDay_11, e_X10_isDay_12, e_X10_isDay_15, e_X10_isDay_16]
def f_road (s : mS) (n : Int32) : mS := if 0 ≤ n ∧ n ≤ 5 then su (su (su s 0 0 0) 40 0 n) 52 0 0 else su s 0 0 1
theorem md_road {n : Int32} (hm : g.1 ≤ m0) : Ev g 121 0 [some (.ref m0), some (.int n)] [] (mput m0 s h) (.inl none, mput m0 (f_road s n) h) := by
  simp only [e_X10_road_0, e_X10_road_1, e_X10_road_2, e_X10_road_3, e_X10_road_7, e_X10_road_10, e_X10_road_11, e_X10_road_14, e_X10_road_15, e_X10_road_18, e_X10_road_19, e_X10_road_22, e_X10_road_25, e_X10_road_26, e_X10_road_27, e_X10_road_28, e_X10_road_31, e_X10_road_32, e_X10_road_33, e_X10_road_36, c_X10_road_4 _ md_isIn, mO, mg_0, mp_0, mg_40, mp_40, mg_52, mp_52, nem, su_get, z1e0, z2e0, z3e0, z4e0, z5e0, z0e1, zme0, Nat.reduceEqDiff, not_true_eq_false, and_self, false_or, or_false, or_self,  bI_eq0, bI_eq1, i10, i20, i30, i00, ne_eq, Decidable.not_not, true_and, and_true, false_and, and_false, xrd_ref, xrd_null, xrd_rf, xid_int, xcat_int, xcat_ref, xcat_null, xcat_long, xcat_rf, xfit_int, xfit_0, xfit_1, xfit_ref, xfit_null, xfit_rf, not_false_eq_true, ↓reduceIte, z01_0, z01_1, bI_01, true_or, or_true, hm, f_road]
  split <;> simp_all
def f_rest (s : mS) (a b c : Int32) : mS := if (0 ≤ a ∧ a ≤ 48) ∧ (0 ≤ b ∧ b ≤ 48) ∧ (0 ≤ c ∧ c ≤ 48) then su (su (su (su (su s 0 0 0) 41 0 a) 42 0 b) 43 0 c) 52 0 0 else su s 0 0 1
theorem md_rest {a b c : Int32} (hm : g.1 ≤ m0) : Ev g 122 0 [some (.ref m0), some (.int a), some (.int b), some (.int c)] [] (mput m0 s h) (.inl none, mput m0 (f_rest s a b c) h) := by
  simp only [e_X10_rest_0, e_X10_rest_1, e_X10_rest_2, e_X10_rest_3, e_X10_rest_8, e_X10_rest_11, e_X10_rest_12, e_X10_rest_13, e_X10_rest_18, e_X10_rest_21, e_X10_rest_22, e_X10_rest_23, e_X10_rest_28, e_X10_rest_31, e_X10_rest_32, e_X10_rest_35, e_X10_rest_36, e_X10_rest_39, e_X10_rest_40, e_X10_rest_43, e_X10_rest_46, e_X10_rest_47, e_X10_rest_48, e_X10_rest_49, e_X10_rest_52, e_X10_rest_53, e_X10_rest_54, e_X10_rest_57, e_X10_rest_58, e_X10_rest_59, e_X10_rest_62, e_X10_rest_63, e_X10_rest_64, e_X10_rest_67, c_X10_rest_5 _ md_isIn, c_X10_rest_15 _ md_isIn, c_X10_rest_25 _ md_isIn, mO, mg_0, mp_0, mg_41, mp_41, mg_42, mp_42, mg_43, mp_43, mg_52, mp_52, nem, su_get, z1e0, z2e0, z3e0, z4e0, z5e0, z0e1, zme0, Nat.reduceEqDiff, not_true_eq_false, and_self, false_or, or_false, or_self,  bI_eq0, bI_eq1, i10, i20, i30, i00, ne_eq, Decidable.not_not, true_and, and_true, false_and, and_false, xrd_ref, xrd_null, xrd_rf, xid_int, xcat_int, xcat_ref, xcat_null, xcat_long, xcat_rf, xfit_int, xfit_0, xfit_1, xfit_ref, xfit_null, xfit_rf, not_false_eq_true, ↓reduceIte, z01_0, z01_1, bI_01, true_or, or_true, hm, f_rest]
  by_cases h1 : 0 ≤ a ∧ a ≤ 48 <;> by_cases h2 : 0 ≤ b ∧ b ≤ 48 <;> by_cases h3 : 0 ≤ c ∧ c ≤ 48 <;> simp only [h1, h2, h3, e_X10_rest_0, e_X10_rest_1, e_X10_rest_2, e_X10_rest_3, e_X10_rest_8, e_X10_rest_11, e_X10_rest_12, e_X10_rest_13, e_X10_rest_18, e_X10_rest_21, e_X10_rest_22, e_X10_rest_23, e_X10_rest_28, e_X10_rest_31, e_X10_rest_32, e_X10_rest_35, e_X10_rest_36, e_X10_rest_39, e_X10_rest_40, e_X10_rest_43, e_X10_rest_46, e_X10_rest_47, e_X10_rest_48, e_X10_rest_49, e_X10_rest_52, e_X10_rest_53, e_X10_rest_54, e_X10_rest_57, e_X10_rest_58, e_X10_rest_59, e_X10_rest_62, e_X10_rest_63, e_X10_rest_64, e_X10_rest_67, c_X10_rest_5 _ md_isIn, c_X10_rest_15 _ md_isIn, c_X10_rest_25 _ md_isIn, mO, mg_0, mp_0, mg_41, mp_41, mg_42, mp_42, mg_43, mp_43, mg_52, mp_52, nem, su_get, z1e0, z2e0, z3e0, z4e0, z5e0, z0e1, zme0, Nat.reduceEqDiff, not_true_eq_false, and_self, false_or, or_false, or_self,  bI_eq0, bI_eq1, i10, i20, i30, i00, ne_eq, Decidable.not_not, true_and, and_true, false_and, and_false, xrd_ref, xrd_null, xrd_rf, xid_int, xcat_int, xcat_ref, xcat_null, xcat_long, xcat_rf, xfit_int, xfit_0, xfit_1, xfit_ref, xfit_null, xfit_rf, not_false_eq_true, ↓reduceIte, z01_0, z01_1, bI_01, true_or, or_true, hm, and_self]
def e_tear (d : Int32) : Int32 := if 0 ≤ d ∧ d < 400 then 0 else 1
def f_tear (s : mS) (d : Int32) : mS := if 0 ≤ d ∧ d < 400 then su (su (su (su s 0 0 0) 36 d.toNatClampNeg 0) 35 d.toNatClampNeg 0) 52 0 0 else su s 0 0 1
def r_tear (s : mS) (d : Int32) : Int32 := if 0 ≤ d ∧ d < 400 then s 36 d.toNatClampNeg else 0
theorem md_tear {d : Int32} (hm : g.1 ≤ m0) (h01 : ∀ j, s 36 j = 0 ∨ s 36 j = 1) : Ev g 119 0 [some (.ref m0), some (.int d), none] [] (mput m0 s h) (.inl (some (.int (r_tear s d))), mput m0 (f_tear s d) h) := by
  simp only [e_X10_tear_0, e_X10_tear_1, e_X10_tear_5, e_X10_tear_8, e_X10_tear_9, e_X10_tear_12, e_X10_tear_13, e_X10_tear_16, e_X10_tear_17, e_X10_tear_20, e_X10_tear_23, e_X10_tear_24, e_X10_tear_25, e_X10_tear_26, e_X10_tear_29, e_X10_tear_30, e_X10_tear_31, e_X10_tear_32, e_X10_tear_33, e_X10_tear_36, e_X10_tear_37, e_X10_tear_38, e_X10_tear_39, e_X10_tear_40, e_X10_tear_43, e_X10_tear_44, e_X10_tear_45, e_X10_tear_46, e_X10_tear_47, e_X10_tear_48, e_X10_tear_51, e_X10_tear_52, c_X10_tear_2 _ md_isDay, mO, mg_0, mp_0, mg_36, mr_36, mA_36, ml_36, me_36, mp_36, mg_35, mr_35, mA_35, ml_35, me_35, mp_35, mg_52, mp_52, nem, su_get, z1e0, z2e0, z3e0, z4e0, z5e0, z0e1, zme0, Nat.reduceEqDiff, not_true_eq_false, and_self, false_or, or_false, or_self,  bI_eq0, bI_eq1, i10, i20, i30, i00, ne_eq, Decidable.not_not, true_and, and_true, false_and, and_false, xrd_ref, xrd_null, xrd_rf, xid_int, xcat_int, xcat_ref, xcat_null, xcat_long, xcat_rf, xfit_int, xfit_0, xfit_1, xfit_ref, xfit_null, xfit_rf, not_false_eq_true, ↓reduceIte, z01_0, z01_1, bI_01, true_or, or_true, hm, f_tear, r_tear]
  by_cases h1 : 0 ≤ d ∧ d < 400
  · have h2 : ¬ (d < 0 ∨ 400 ≤ d.toNatClampNeg) := i_in h1.1 (Int32.lt_iff_toInt_lt.mp h1.2)
    simp only [h1, h2, e_X10_tear_0, e_X10_tear_1, e_X10_tear_5, e_X10_tear_8, e_X10_tear_9, e_X10_tear_12, e_X10_tear_13, e_X10_tear_16, e_X10_tear_17, e_X10_tear_20, e_X10_tear_23, e_X10_tear_24, e_X10_tear_25, e_X10_tear_26, e_X10_tear_29, e_X10_tear_30, e_X10_tear_31, e_X10_tear_32, e_X10_tear_33, e_X10_tear_36, e_X10_tear_37, e_X10_tear_38, e_X10_tear_39, e_X10_tear_40, e_X10_tear_43, e_X10_tear_44, e_X10_tear_45, e_X10_tear_46, e_X10_tear_47, e_X10_tear_48, e_X10_tear_51, e_X10_tear_52, c_X10_tear_2 _ md_isDay, mO, mg_0, mp_0, mg_36, mr_36, mA_36, ml_36, me_36, mp_36, mg_35, mr_35, mA_35, ml_35, me_35, mp_35, mg_52, mp_52, nem, su_get, z1e0, z2e0, z3e0, z4e0, z5e0, z0e1, zme0, Nat.reduceEqDiff, not_true_eq_false, and_self, false_or, or_false, or_self,  bI_eq0, bI_eq1, i10, i20, i30, i00, ne_eq, Decidable.not_not, true_and, and_true, false_and, and_false, xrd_ref, xrd_null, xrd_rf, xid_int, xcat_int, xcat_ref, xcat_null, xcat_long, xcat_rf, xfit_int, xfit_0, xfit_1, xfit_ref, xfit_null, xfit_rf, not_false_eq_true, ↓reduceIte, z01_0, z01_1, bI_01, true_or, or_true, hm, hmk hm, and_self, h01]
  · simp only [h1, e_X10_tear_0, e_X10_tear_1, e_X10_tear_5, e_X10_tear_8, e_X10_tear_9, e_X10_tear_12, e_X10_tear_13, e_X10_tear_16, e_X10_tear_17, e_X10_tear_20, e_X10_tear_23, e_X10_tear_24, e_X10_tear_25, e_X10_tear_26, e_X10_tear_29, e_X10_tear_30, e_X10_tear_31, e_X10_tear_32, e_X10_tear_33, e_X10_tear_36, e_X10_tear_37, e_X10_tear_38, e_X10_tear_39, e_X10_tear_40, e_X10_tear_43, e_X10_tear_44, e_X10_tear_45, e_X10_tear_46, e_X10_tear_47, e_X10_tear_48, e_X10_tear_51, e_X10_tear_52, c_X10_tear_2 _ md_isDay, mO, mg_0, mp_0, mg_36, mr_36, mA_36, ml_36, me_36, mp_36, mg_35, mr_35, mA_35, ml_35, me_35, mp_35, mg_52, mp_52, nem, su_get, z1e0, z2e0, z3e0, z4e0, z5e0, z0e1, zme0, Nat.reduceEqDiff, not_true_eq_false, and_self, false_or, or_false, or_self,  bI_eq0, bI_eq1, i10, i20, i30, i00, ne_eq, Decidable.not_not, true_and, and_true, false_and, and_false, xrd_ref, xrd_null, xrd_rf, xid_int, xcat_int, xcat_ref, xcat_null, xcat_long, xcat_rf, xfit_int, xfit_0, xfit_1, xfit_ref, xfit_null, xfit_rf, not_false_eq_true, ↓reduceIte, z01_0, z01_1, bI_01, true_or, or_true, hm]
/-- the place of p in the list, from i on, f places more -/
def pl (s : mS) (p : Int32) : Nat → Nat → Int32
  | 0, _ => -1
  | f + 1, i => if s 17 i = p then nI i else pl s p f (i + 1)
theorem lp_placeOf {p : Int32} {L : Nat} (hL : s 18 0 = nI L) (h60 : L ≤ 60) : ∀ f i, i + f = L → Ev g 131 2 [some (.ref m0), some (.int p), some (.int (nI i))] [] (mput m0 s h) (.inl (some (.int (pl s p f i))), mput m0 s h) := by
  intro f
  induction f with
  | zero =>
    intro i hi
    have h1 : ¬ nI i < s 18 0 := by rw [hL]; exact nI_nlt (by omega) (by omega)
    have h2 : s 18 0 ≤ nI i := by rw [hL]; exact nI_le (by omega) (by omega)
    simp only [e_X10_placeOf_0, e_X10_placeOf_1, e_X10_placeOf_2, e_X10_placeOf_3, e_X10_placeOf_4, e_X10_placeOf_7, e_X10_placeOf_10, e_X10_placeOf_11, e_X10_placeOf_14, e_X10_placeOf_15, e_X10_placeOf_16, e_X10_placeOf_17, e_X10_placeOf_20, e_X10_placeOf_21, e_X10_placeOf_22, e_X10_placeOf_25, e_X10_placeOf_28, e_X10_placeOf_29, e_X10_placeOf_0, e_X10_placeOf_1, e_X10_placeOf_3, e_X10_placeOf_4, e_X10_placeOf_7, e_X10_placeOf_10, e_X10_placeOf_11, e_X10_placeOf_14, e_X10_placeOf_15, e_X10_placeOf_16, e_X10_placeOf_17, e_X10_placeOf_20, e_X10_placeOf_21, e_X10_placeOf_22, e_X10_placeOf_25, e_X10_placeOf_28, e_X10_placeOf_29, mO, mg_18, mp_18, mg_17, mr_17, mA_17, ml_17, me_17, mp_17, nem, su_get, z1e0, z2e0, z3e0, z4e0, z5e0, z0e1, zme0, Nat.reduceEqDiff, not_true_eq_false, and_self, false_or, or_false, or_self,  bI_eq0, bI_eq1, i10, i20, i30, i00, ne_eq, Decidable.not_not, true_and, and_true, false_and, and_false, xrd_ref, xrd_null, xrd_rf, xid_int, xcat_int, xcat_ref, xcat_null, xcat_long, xcat_rf, xfit_int, xfit_0, xfit_1, xfit_ref, xfit_null, xfit_rf, not_false_eq_true, ↓reduceIte, z01_0, z01_1, bI_01, true_or, or_true, h1, h2, pl]
  | succ f ih =>
    intro i hi
    have h1 : nI i < s 18 0 := by rw [hL]; exact nI_lt (by omega) (by omega)
    have h2 : ¬ s 18 0 ≤ nI i := by rw [hL]; exact nI_ge (by omega) (by omega)
    have hn_i : ¬ nI i < 0 := nI_pos (by omega)
    have hc_i : (nI i).toNatClampNeg = i := nI_clamp (by omega)
    have hb_i : ¬ 60 ≤ i := by omega
    rw [e_X10_placeOf_2 rfl]
    simp only [e_X10_placeOf_0, e_X10_placeOf_1, e_X10_placeOf_3, e_X10_placeOf_4, e_X10_placeOf_7, e_X10_placeOf_10, e_X10_placeOf_11, e_X10_placeOf_14, e_X10_placeOf_15, e_X10_placeOf_16, e_X10_placeOf_17, e_X10_placeOf_20, e_X10_placeOf_21, e_X10_placeOf_22, e_X10_placeOf_25, e_X10_placeOf_28, e_X10_placeOf_29, mO, mg_18, mp_18, mg_17, mr_17, mA_17, ml_17, me_17, mp_17, nem, su_get, z1e0, z2e0, z3e0, z4e0, z5e0, z0e1, zme0, Nat.reduceEqDiff, not_true_eq_false, and_self, false_or, or_false, or_self,  bI_eq0, bI_eq1, i10, i20, i30, i00, ne_eq, Decidable.not_not, true_and, and_true, false_and, and_false, xrd_ref, xrd_null, xrd_rf, xid_int, xcat_int, xcat_ref, xcat_null, xcat_long, xcat_rf, xfit_int, xfit_0, xfit_1, xfit_ref, xfit_null, xfit_rf, not_false_eq_true, ↓reduceIte, z01_0, z01_1, bI_01, true_or, or_true, h1, h2, hn_i, hc_i, hb_i, pl, nI_1]
    by_cases e : s 17 i = p
    · simp only [e, e_X10_placeOf_0, e_X10_placeOf_1, e_X10_placeOf_3, e_X10_placeOf_4, e_X10_placeOf_7, e_X10_placeOf_10, e_X10_placeOf_11, e_X10_placeOf_14, e_X10_placeOf_15, e_X10_placeOf_16, e_X10_placeOf_17, e_X10_placeOf_20, e_X10_placeOf_21, e_X10_placeOf_22, e_X10_placeOf_25, e_X10_placeOf_28, e_X10_placeOf_29, mO, mg_18, mp_18, mg_17, mr_17, mA_17, ml_17, me_17, mp_17, nem, su_get, z1e0, z2e0, z3e0, z4e0, z5e0, z0e1, zme0, Nat.reduceEqDiff, not_true_eq_false, and_self, false_or, or_false, or_self,  bI_eq0, bI_eq1, i10, i20, i30, i00, ne_eq, Decidable.not_not, true_and, and_true, false_and, and_false, xrd_ref, xrd_null, xrd_rf, xid_int, xcat_int, xcat_ref, xcat_null, xcat_long, xcat_rf, xfit_int, xfit_0, xfit_1, xfit_ref, xfit_null, xfit_rf, not_false_eq_true, ↓reduceIte, z01_0, z01_1, bI_01, true_or, or_true, ↓reduceIte]
    · simp only [e, e_X10_placeOf_0, e_X10_placeOf_1, e_X10_placeOf_3, e_X10_placeOf_4, e_X10_placeOf_7, e_X10_placeOf_10, e_X10_placeOf_11, e_X10_placeOf_14, e_X10_placeOf_15, e_X10_placeOf_16, e_X10_placeOf_17, e_X10_placeOf_20, e_X10_placeOf_21, e_X10_placeOf_22, e_X10_placeOf_25, e_X10_placeOf_28, e_X10_placeOf_29, mO, mg_18, mp_18, mg_17, mr_17, mA_17, ml_17, me_17, mp_17, nem, su_get, z1e0, z2e0, z3e0, z4e0, z5e0, z0e1, zme0, Nat.reduceEqDiff, not_true_eq_false, and_self, false_or, or_false, or_self,  bI_eq0, bI_eq1, i10, i20, i30, i00, ne_eq, Decidable.not_not, true_and, and_true, false_and, and_false, xrd_ref, xrd_null, xrd_rf, xid_int, xcat_int, xcat_ref, xcat_null, xcat_long, xcat_rf, xfit_int, xfit_0, xfit_1, xfit_ref, xfit_null, xfit_rf, not_false_eq_true, ↓reduceIte, z01_0, z01_1, bI_01, true_or, or_true, ih (i + 1) (by omega), ↓reduceIte, nI_1]
theorem md_placeOf {p : Int32} {L : Nat} (hL : s 18 0 = nI L) (h60 : L ≤ 60) : Ev g 131 0 [some (.ref m0), some (.int p), none] [] (mput m0 s h) (.inl (some (.int (pl s p L 0))), mput m0 s h) := by
  have := lp_placeOf (g := g) (m0 := m0) (h := h) (p := p) hL h60 L 0 (by omega)
  rw [nI_0] at this
  simp only [e_X10_placeOf_0, e_X10_placeOf_1, e_X10_placeOf_3, e_X10_placeOf_4, e_X10_placeOf_7, e_X10_placeOf_10, e_X10_placeOf_11, e_X10_placeOf_14, e_X10_placeOf_15, e_X10_placeOf_16, e_X10_placeOf_17, e_X10_placeOf_20, e_X10_placeOf_21, e_X10_placeOf_22, e_X10_placeOf_25, e_X10_placeOf_28, e_X10_placeOf_29, mO, mg_18, mp_18, mg_17, mr_17, mA_17, ml_17, me_17, mp_17, nem, su_get, z1e0, z2e0, z3e0, z4e0, z5e0, z0e1, zme0, Nat.reduceEqDiff, not_true_eq_false, and_self, false_or, or_false, or_self,  bI_eq0, bI_eq1, i10, i20, i30, i00, ne_eq, Decidable.not_not, true_and, and_true, false_and, and_false, xrd_ref, xrd_null, xrd_rf, xid_int, xcat_int, xcat_ref, xcat_null, xcat_long, xcat_rf, xfit_int, xfit_0, xfit_1, xfit_ref, xfit_null, xfit_rf, not_false_eq_true, ↓reduceIte, z01_0, z01_1, bI_01, true_or, or_true, this]
theorem su_other (s : mS) {k j k2 j2 : Nat} (v : Int32) (h : k2 ≠ k) : su s k j v k2 j2 = s k2 j2 := by simp [su, h]
theorem nI_sub {a b : Nat} (h : b ≤ a) : nI a - nI b = nI (a - b) := by
  have : nI a = nI (a - b) + nI b := by rw [nI_add, Nat.sub_add_cancel h]
  rw [this, Int32.add_sub_cancel]
theorem nI_1e : nI 1 = 1 := by decide +kernel
theorem nI_s1 {a : Nat} (h : 1 ≤ a) : nI a - 1 = nI (a - 1) := by rw [← nI_1e, nI_sub h]
theorem nI_m1 {a : Nat} (h : 1 ≤ a) : nI a + (-1) = nI (a - 1) := by rw [← nI_s1 h, Int32.sub_eq_add_neg]
/-- the list without its place i, f places behind it -/
def tkS (s : mS) : Nat → Nat → mS
  | 0, _ => s
  | f + 1, i => tkS (su s 17 i (s 17 (i + 1))) f (i + 1)
theorem tkS_o (s : mS) {k : Nat} (hk : k ≠ 17) (j f i : Nat) : tkS s f i k j = s k j := by
  induction f generalizing s i with
  | zero => rfl
  | succ f ih => rw [tkS, ih, su_other _ _ hk]
theorem lp_takeOff {p : Int32} {K : Int32} {L : Nat} (hm : g.1 ≤ m0) (h60 : L ≤ 60) : ∀ (f i : Nat) (s : mS), s 18 0 = nI L → i + f + 1 = L → Ev g 132 8 [some (.ref m0), some (.int p), some (.int K), some (.int (nI i))] [] (mput m0 s h) (.inl none, mput m0 (su (tkS s f i) 18 0 (nI (L - 1))) h) := by
  intro f
  induction f with
  | zero =>
    intro i s hL hi
    have h2 : nI (L - 1) ≤ nI i := nI_le (by omega) (by omega)
    simp only [e_X10_takeOff_0, e_X10_takeOff_1, e_X10_takeOff_5, e_X10_takeOff_6, e_X10_takeOff_7, e_X10_takeOff_8, e_X10_takeOff_9, e_X10_takeOff_10, e_X10_takeOff_13, e_X10_takeOff_14, e_X10_takeOff_15, e_X10_takeOff_18, e_X10_takeOff_19, e_X10_takeOff_22, e_X10_takeOff_23, e_X10_takeOff_24, e_X10_takeOff_27, e_X10_takeOff_28, e_X10_takeOff_29, e_X10_takeOff_30, e_X10_takeOff_31, e_X10_takeOff_32, e_X10_takeOff_35, e_X10_takeOff_38, e_X10_takeOff_39, e_X10_takeOff_40, e_X10_takeOff_43, e_X10_takeOff_44, e_X10_takeOff_45, e_X10_takeOff_48, e_X10_takeOff_0, e_X10_takeOff_1, e_X10_takeOff_5, e_X10_takeOff_6, e_X10_takeOff_7, e_X10_takeOff_9, e_X10_takeOff_10, e_X10_takeOff_13, e_X10_takeOff_14, e_X10_takeOff_15, e_X10_takeOff_18, e_X10_takeOff_19, e_X10_takeOff_22, e_X10_takeOff_23, e_X10_takeOff_24, e_X10_takeOff_27, e_X10_takeOff_28, e_X10_takeOff_29, e_X10_takeOff_30, e_X10_takeOff_31, e_X10_takeOff_32, e_X10_takeOff_35, e_X10_takeOff_38, e_X10_takeOff_39, e_X10_takeOff_40, e_X10_takeOff_43, e_X10_takeOff_44, e_X10_takeOff_45, e_X10_takeOff_48, c_X10_takeOff_2 _ (md_placeOf _ _), mO, mg_18, mp_18, mg_17, mr_17, mA_17, ml_17, me_17, mp_17, nem, su_get, z1e0, z2e0, z3e0, z4e0, z5e0, z0e1, zme0, Nat.reduceEqDiff, not_true_eq_false, and_self, false_or, or_false, or_self,  bI_eq0, bI_eq1, i10, i20, i30, i00, ne_eq, Decidable.not_not, true_and, and_true, false_and, and_false, xrd_ref, xrd_null, xrd_rf, xid_int, xcat_int, xcat_ref, xcat_null, xcat_long, xcat_rf, xfit_int, xfit_0, xfit_1, xfit_ref, xfit_null, xfit_rf, not_false_eq_true, ↓reduceIte, z01_0, z01_1, bI_01, true_or, or_true, hL, nI_s1 (show 1 ≤ L by omega), h2, hm, hmk hm, tkS]
  | succ f ih =>
    intro i s hL hi
    have h2 : ¬ nI (L - 1) ≤ nI i := nI_ge (by omega) (by omega)
    have hn_i : ¬ nI i < 0 := nI_pos (by omega)
    have hc_i : (nI i).toNatClampNeg = i := nI_clamp (by omega)
    have hb_i : ¬ 60 ≤ i := by omega
    have hn_i1 : ¬ nI (i+1) < 0 := nI_pos (by omega)
    have hc_i1 : (nI (i+1)).toNatClampNeg = (i+1) := nI_clamp (by omega)
    have hb_i1 : ¬ 60 ≤ (i+1) := by omega
    rw [e_X10_takeOff_8 rfl]
    simp only [e_X10_takeOff_0, e_X10_takeOff_1, e_X10_takeOff_5, e_X10_takeOff_6, e_X10_takeOff_7, e_X10_takeOff_9, e_X10_takeOff_10, e_X10_takeOff_13, e_X10_takeOff_14, e_X10_takeOff_15, e_X10_takeOff_18, e_X10_takeOff_19, e_X10_takeOff_22, e_X10_takeOff_23, e_X10_takeOff_24, e_X10_takeOff_27, e_X10_takeOff_28, e_X10_takeOff_29, e_X10_takeOff_30, e_X10_takeOff_31, e_X10_takeOff_32, e_X10_takeOff_35, e_X10_takeOff_38, e_X10_takeOff_39, e_X10_takeOff_40, e_X10_takeOff_43, e_X10_takeOff_44, e_X10_takeOff_45, e_X10_takeOff_48, c_X10_takeOff_2 _ (md_placeOf _ _), mO, mg_18, mp_18, mg_17, mr_17, mA_17, ml_17, me_17, mp_17, nem, su_get, z1e0, z2e0, z3e0, z4e0, z5e0, z0e1, zme0, Nat.reduceEqDiff, not_true_eq_false, and_self, false_or, or_false, or_self,  bI_eq0, bI_eq1, i10, i20, i30, i00, ne_eq, Decidable.not_not, true_and, and_true, false_and, and_false, xrd_ref, xrd_null, xrd_rf, xid_int, xcat_int, xcat_ref, xcat_null, xcat_long, xcat_rf, xfit_int, xfit_0, xfit_1, xfit_ref, xfit_null, xfit_rf, not_false_eq_true, ↓reduceIte, z01_0, z01_1, bI_01, true_or, or_true, hL, nI_s1 (show 1 ≤ L by omega), h2, hn_i, hc_i, hb_i, hn_i1, hc_i1, hb_i1, hm, hmk hm, nI_1, tkS]
    exact ih (i + 1) _ (by rw [su_other _ _ (by decide)]; exact hL) (by omega)
theorem md_takeOff {p : Int32} {L K : Nat} (hL : s 18 0 = nI L) (h60 : L ≤ 60) (hK : pl s p L 0 = nI K) (hKL : K < L) (hm : g.1 ≤ m0) : Ev g 132 0 [some (.ref m0), some (.int p), none, none] [] (mput m0 s h) (.inl none, mput m0 (su (tkS s (L - 1 - K) K) 18 0 (nI (L - 1))) h) := by
  simp only [e_X10_takeOff_0, e_X10_takeOff_1, c_X10_takeOff_2 _ (md_placeOf hL h60), mO, mg_18, mp_18, mg_17, mr_17, mA_17, ml_17, me_17, mp_17, nem, su_get, z1e0, z2e0, z3e0, z4e0, z5e0, z0e1, zme0, Nat.reduceEqDiff, not_true_eq_false, and_self, false_or, or_false, or_self,  bI_eq0, bI_eq1, i10, i20, i30, i00, ne_eq, Decidable.not_not, true_and, and_true, false_and, and_false, xrd_ref, xrd_null, xrd_rf, xid_int, xcat_int, xcat_ref, xcat_null, xcat_long, xcat_rf, xfit_int, xfit_0, xfit_1, xfit_ref, xfit_null, xfit_rf, not_false_eq_true, ↓reduceIte, z01_0, z01_1, bI_01, true_or, or_true]
  simp only [e_X10_takeOff_5, e_X10_takeOff_6, e_X10_takeOff_7, nem, su_get, z1e0, z2e0, z3e0, z4e0, z5e0, z0e1, zme0, Nat.reduceEqDiff, not_true_eq_false, and_self, false_or, or_false, or_self,  bI_eq0, bI_eq1, i10, i20, i30, i00, ne_eq, Decidable.not_not, true_and, and_true, false_and, and_false, xrd_ref, xrd_null, xrd_rf, xid_int, xcat_int, xcat_ref, xcat_null, xcat_long, xcat_rf, xfit_int, xfit_0, xfit_1, xfit_ref, xfit_null, xfit_rf, not_false_eq_true, ↓reduceIte, z01_0, z01_1, bI_01, true_or, or_true, hK]
  exact lp_takeOff hm h60 _ _ s hL (by omega)
/-- room at the place a: the list's places from i down to a move up -/
def paS (s : mS) : Nat → Nat → mS
  | 0, _ => s
  | f + 1, i => paS (su s 17 i (s 17 (i - 1))) f (i - 1)
theorem paS_o (s : mS) {k : Nat} (hk : k ≠ 17) (j f i : Nat) : paS s f i k j = s k j := by
  induction f generalizing s i with
  | zero => rfl
  | succ f ih => rw [paS, ih, su_other _ _ hk]
theorem lp_putAt {p : Int32} {L a : Nat} (hm : g.1 ≤ m0) (h60 : L < 60) : ∀ (f i : Nat) (s : mS), s 18 0 = nI L → i ≤ L → a + f = i → Ev g 133 5 [some (.ref m0), some (.int p), some (.int (nI a)), some (.int (nI i))] [] (mput m0 s h) (.inl none, mput m0 (su (su (paS s f i) 17 a p) 18 0 (nI (L + 1))) h) := by
  intro f
  induction f with
  | zero =>
    intro i s hL hiL hi
    have h2 : nI i ≤ nI a := nI_le (by omega) (by omega)
    have hn_a : ¬ nI a < 0 := nI_pos (by omega)
    have hc_a : (nI a).toNatClampNeg = a := nI_clamp (by omega)
    have hb_a : ¬ 60 ≤ a := by omega
    simp only [e_X10_putAt_0, e_X10_putAt_1, e_X10_putAt_4, e_X10_putAt_5, e_X10_putAt_6, e_X10_putAt_7, e_X10_putAt_10, e_X10_putAt_11, e_X10_putAt_14, e_X10_putAt_15, e_X10_putAt_16, e_X10_putAt_19, e_X10_putAt_20, e_X10_putAt_21, e_X10_putAt_22, e_X10_putAt_23, e_X10_putAt_24, e_X10_putAt_27, e_X10_putAt_30, e_X10_putAt_31, e_X10_putAt_34, e_X10_putAt_35, e_X10_putAt_36, e_X10_putAt_37, e_X10_putAt_38, e_X10_putAt_39, e_X10_putAt_42, e_X10_putAt_43, e_X10_putAt_44, e_X10_putAt_47, e_X10_putAt_0, e_X10_putAt_1, e_X10_putAt_4, e_X10_putAt_6, e_X10_putAt_7, e_X10_putAt_10, e_X10_putAt_11, e_X10_putAt_14, e_X10_putAt_15, e_X10_putAt_16, e_X10_putAt_19, e_X10_putAt_20, e_X10_putAt_21, e_X10_putAt_22, e_X10_putAt_23, e_X10_putAt_24, e_X10_putAt_27, e_X10_putAt_30, e_X10_putAt_31, e_X10_putAt_34, e_X10_putAt_35, e_X10_putAt_36, e_X10_putAt_37, e_X10_putAt_38, e_X10_putAt_39, e_X10_putAt_42, e_X10_putAt_43, e_X10_putAt_44, e_X10_putAt_47, mO, mg_18, mp_18, mg_17, mr_17, mA_17, ml_17, me_17, mp_17, nem, su_get, z1e0, z2e0, z3e0, z4e0, z5e0, z0e1, zme0, Nat.reduceEqDiff, not_true_eq_false, and_self, false_or, or_false, or_self,  bI_eq0, bI_eq1, i10, i20, i30, i00, ne_eq, Decidable.not_not, true_and, and_true, false_and, and_false, xrd_ref, xrd_null, xrd_rf, xid_int, xcat_int, xcat_ref, xcat_null, xcat_long, xcat_rf, xfit_int, xfit_0, xfit_1, xfit_ref, xfit_null, xfit_rf, not_false_eq_true, ↓reduceIte, z01_0, z01_1, bI_01, true_or, or_true, hL, h2, hn_a, hc_a, hb_a, hm, hmk hm, nI_1, paS]
  | succ f ih =>
    intro i s hL hiL hi
    have h2 : ¬ nI i ≤ nI a := nI_ge (by omega) (by omega)
    have hn_i : ¬ nI i < 0 := nI_pos (by omega)
    have hc_i : (nI i).toNatClampNeg = i := nI_clamp (by omega)
    have hb_i : ¬ 60 ≤ i := by omega
    have hn_i1 : ¬ nI (i-1) < 0 := nI_pos (by omega)
    have hc_i1 : (nI (i-1)).toNatClampNeg = (i-1) := nI_clamp (by omega)
    have hb_i1 : ¬ 60 ≤ (i-1) := by omega
    rw [e_X10_putAt_5 rfl]
    simp only [e_X10_putAt_0, e_X10_putAt_1, e_X10_putAt_4, e_X10_putAt_6, e_X10_putAt_7, e_X10_putAt_10, e_X10_putAt_11, e_X10_putAt_14, e_X10_putAt_15, e_X10_putAt_16, e_X10_putAt_19, e_X10_putAt_20, e_X10_putAt_21, e_X10_putAt_22, e_X10_putAt_23, e_X10_putAt_24, e_X10_putAt_27, e_X10_putAt_30, e_X10_putAt_31, e_X10_putAt_34, e_X10_putAt_35, e_X10_putAt_36, e_X10_putAt_37, e_X10_putAt_38, e_X10_putAt_39, e_X10_putAt_42, e_X10_putAt_43, e_X10_putAt_44, e_X10_putAt_47, mO, mg_18, mp_18, mg_17, mr_17, mA_17, ml_17, me_17, mp_17, nem, su_get, z1e0, z2e0, z3e0, z4e0, z5e0, z0e1, zme0, Nat.reduceEqDiff, not_true_eq_false, and_self, false_or, or_false, or_self,  bI_eq0, bI_eq1, i10, i20, i30, i00, ne_eq, Decidable.not_not, true_and, and_true, false_and, and_false, xrd_ref, xrd_null, xrd_rf, xid_int, xcat_int, xcat_ref, xcat_null, xcat_long, xcat_rf, xfit_int, xfit_0, xfit_1, xfit_ref, xfit_null, xfit_rf, not_false_eq_true, ↓reduceIte, z01_0, z01_1, bI_01, true_or, or_true, h2, hn_i, hc_i, hb_i, hn_i1, hc_i1, hb_i1, hm, hmk hm, nI_s1 (show 1 ≤ i by omega), nI_m1 (show 1 ≤ i by omega), paS]
    exact ih (i - 1) _ (by rw [su_other _ _ (by decide)]; exact hL) (by omega) (by omega)
theorem md_putAt {p : Int32} {L a : Nat} (hL : s 18 0 = nI L) (h60 : L < 60) (ha : a ≤ L) (hm : g.1 ≤ m0) : Ev g 133 0 [some (.ref m0), some (.int p), some (.int (nI a)), none] [] (mput m0 s h) (.inl none, mput m0 (su (su (paS s (L - a) L) 17 a p) 18 0 (nI (L + 1))) h) := by
  simp only [e_X10_putAt_0, e_X10_putAt_1, e_X10_putAt_4, mO, mg_18, mp_18, mg_17, mr_17, mA_17, ml_17, me_17, mp_17, nem, su_get, z1e0, z2e0, z3e0, z4e0, z5e0, z0e1, zme0, Nat.reduceEqDiff, not_true_eq_false, and_self, false_or, or_false, or_self,  bI_eq0, bI_eq1, i10, i20, i30, i00, ne_eq, Decidable.not_not, true_and, and_true, false_and, and_false, xrd_ref, xrd_null, xrd_rf, xid_int, xcat_int, xcat_ref, xcat_null, xcat_long, xcat_rf, xfit_int, xfit_0, xfit_1, xfit_ref, xfit_null, xfit_rf, not_false_eq_true, ↓reduceIte, z01_0, z01_1, bI_01, true_or, or_true, hL]
  exact lp_putAt hm h60 _ _ s hL (by omega) (by omega)
end MD
