/-! ===== the class's ship ===== -/
section SC
variable {g : Nat × Nat × Nat} {A : Nat → Nat → Nat} {z : zT} {s o : mS} {P S : Nat}
theorem shipX {i l d t w q : Int32} {a7 : Option Value} (hY : zok g A z P S) (hP : s 2 0 = nI P) (hS : s 19 0 = nI S) (he : e_ship s l d t w ≠ 0) : Ev g 57 0 [some (.ref (A 0 0)), some (.int i), some (.int l), some (.int d), some (.int t), some (.int w), some (.int q), a7] [] (cp A z s o) (.inr (if e_ship s l d t w = 1 then 0 else if e_ship s l d t w = 2 then 1 else 2), bmp (cp A z s o)) := by
  have rm := zrm (s := s) (o := o) hY (show 6 ≤ 100000 by decide)
  have k1 := cl_size (s := s) (o := o) hY (l := 0) (by decide)
  simp only [sz, hP] at k1
  have k2 := cl_size (s := s) (o := o) hY (l := 1) (by decide)
  simp only [sz, hS] at k2
  by_cases h1 : 1 ≤ l ∧ l ≤ 400
  · by_cases h2 : 1 ≤ d ∧ d ≤ 200
    · by_cases h3 : 0 ≤ t ∧ t ≤ 9599
      · by_cases h4 : w < -2
        · have ee : e_ship s l d t w = 1 := by simp only [e_ship, h4, not_true_eq_false, and_false, not_false_eq_true, if_true]
          have n4 : ¬ (-2 : Int32) ≤ w := by rw [Int32.not_le]; exact h4
          rw [ee, if_pos rfl]
          simp only [e_X9_ship_0, e_X9_ship_1, e_X9_ship_2, e_X9_ship_8, e_X9_ship_11, e_X9_ship_12, e_X9_ship_13, e_X9_ship_19, e_X9_ship_22, e_X9_ship_34, e_X9_ship_35, e_X9_ship_41, e_X9_ship_44, e_X9_ship_56, e_X9_ship_58, e_X9_ship_61, e_X9_ship_73, e_X9_ship_74, e_X9_ship_80, e_X9_ship_83, e_X9_ship_94, e_X9_ship_100, e_X9_ship_103, e_X9_ship_106, e_X9_ship_117, e_X9_ship_118, e_X9_ship_121, e_X9_ship_124, e_X9_ship_125, e_X9_ship_126, e_X9_ship_132, e_X9_ship_133, e_X9_ship_134, e_X9_ship_135, e_X9_ship_137, e_X9_ship_139, e_X9_ship_144, e_X9_ship_146, e_X9_ship_147, e_X9_ship_150, e_X9_ship_155, e_X9_ship_156, e_X9_ship_157, e_X9_ship_160, e_X9_ship_161, e_X9_ship_165, e_X9_ship_170, e_X9_ship_172, e_X9_ship_175, e_X9_ship_32, e_X9_ship_54, e_X9_ship_71, e_X9_ship_93, e_X9_ship_116, cO_0 hY, cg_0_0 hY, cg_0_1 hY, hb_0 hY, cw_0_14 hY, cg_0_2 hY, cO_34 hY, cg_34_0 hY, rP_n, rS_n, xrd_rP, xrd_rS, xfit_rP, xfit_rS, xcat_rP, xcat_rS, nem, su_get, z1e0, z2e0, z3e0, z4e0, z5e0, z0e1, zme0, Nat.reduceEqDiff, not_true_eq_false, and_self, false_or, or_false, or_self,  bI_eq0, bI_eq1, i10, i20, i30, i00, ne_eq, Decidable.not_not, true_and, and_true, false_and, and_false, xrd_ref, xrd_null, xrd_rf, xid_int, xcat_int, xcat_ref, xcat_null, xcat_long, xcat_rf, xfit_int, xfit_0, xfit_1, xfit_ref, xfit_null, xfit_rf, not_false_eq_true, ↓reduceIte, z01_0, z01_1, bI_01, true_or, or_true, c_X9_ship_5 cd_within, c_X9_ship_16 cd_within, c_X9_ship_38 cd_within, h1, h2, h3, n4, rm]
          rfl
        · have n4 : (-2 : Int32) ≤ w := by rw [Int32.not_lt] at h4; exact h4
          by_cases h5 : nI P ≤ w
          · have ee : e_ship s l d t w = 2 := by simp only [e_ship, h1, h2, h3, h4, hP, h5, and_self, not_true_eq_false, not_false_eq_true, if_false, if_true]
            have n5 : ¬ w < nI P := by rw [Int32.not_lt]; exact h5
            rw [ee, if_neg (by decide), if_pos rfl]
            simp only [e_X9_ship_0, e_X9_ship_1, e_X9_ship_2, e_X9_ship_8, e_X9_ship_11, e_X9_ship_12, e_X9_ship_13, e_X9_ship_19, e_X9_ship_22, e_X9_ship_34, e_X9_ship_35, e_X9_ship_41, e_X9_ship_44, e_X9_ship_56, e_X9_ship_58, e_X9_ship_61, e_X9_ship_73, e_X9_ship_74, e_X9_ship_80, e_X9_ship_83, e_X9_ship_94, e_X9_ship_100, e_X9_ship_103, e_X9_ship_106, e_X9_ship_117, e_X9_ship_118, e_X9_ship_121, e_X9_ship_124, e_X9_ship_125, e_X9_ship_126, e_X9_ship_132, e_X9_ship_133, e_X9_ship_134, e_X9_ship_135, e_X9_ship_137, e_X9_ship_139, e_X9_ship_144, e_X9_ship_146, e_X9_ship_147, e_X9_ship_150, e_X9_ship_155, e_X9_ship_156, e_X9_ship_157, e_X9_ship_160, e_X9_ship_161, e_X9_ship_165, e_X9_ship_170, e_X9_ship_172, e_X9_ship_175, e_X9_ship_32, e_X9_ship_54, e_X9_ship_71, e_X9_ship_93, e_X9_ship_116, cO_0 hY, cg_0_0 hY, cg_0_1 hY, hb_0 hY, cw_0_14 hY, cg_0_2 hY, cO_34 hY, cg_34_0 hY, rP_n, rS_n, xrd_rP, xrd_rS, xfit_rP, xfit_rS, xcat_rP, xcat_rS, nem, su_get, z1e0, z2e0, z3e0, z4e0, z5e0, z0e1, zme0, Nat.reduceEqDiff, not_true_eq_false, and_self, false_or, or_false, or_self,  bI_eq0, bI_eq1, i10, i20, i30, i00, ne_eq, Decidable.not_not, true_and, and_true, false_and, and_false, xrd_ref, xrd_null, xrd_rf, xid_int, xcat_int, xcat_ref, xcat_null, xcat_long, xcat_rf, xfit_int, xfit_0, xfit_1, xfit_ref, xfit_null, xfit_rf, not_false_eq_true, ↓reduceIte, z01_0, z01_1, bI_01, true_or, or_true, c_X9_ship_5 cd_within, c_X9_ship_16 cd_within, c_X9_ship_38 cd_within, h1, h2, h3, n4, n5, c_X9_ship_77 (cO_1 hY) k1, rm]
            rfl
          · have n5 : w < nI P := by rw [Int32.not_le] at h5; exact h5
            have h6 : nI S = 400 := by
              apply Decidable.byContradiction
              intro e
              exact he (by simp only [e_ship, h1, h2, h3, h4, hP, hS, h5, and_self, not_true_eq_false, not_false_eq_true, if_false, e])
            have ee : e_ship s l d t w = 3 := by simp only [e_ship, h1, h2, h3, h4, hP, hS, h5, h6, and_self, not_true_eq_false, not_false_eq_true, if_false, if_true]
            have n6 : ¬ nI S < 400 := by rw [h6]; decide
            rw [ee, if_neg (by decide), if_neg (by decide)]
            simp only [e_X9_ship_0, e_X9_ship_1, e_X9_ship_2, e_X9_ship_8, e_X9_ship_11, e_X9_ship_12, e_X9_ship_13, e_X9_ship_19, e_X9_ship_22, e_X9_ship_34, e_X9_ship_35, e_X9_ship_41, e_X9_ship_44, e_X9_ship_56, e_X9_ship_58, e_X9_ship_61, e_X9_ship_73, e_X9_ship_74, e_X9_ship_80, e_X9_ship_83, e_X9_ship_94, e_X9_ship_100, e_X9_ship_103, e_X9_ship_106, e_X9_ship_117, e_X9_ship_118, e_X9_ship_121, e_X9_ship_124, e_X9_ship_125, e_X9_ship_126, e_X9_ship_132, e_X9_ship_133, e_X9_ship_134, e_X9_ship_135, e_X9_ship_137, e_X9_ship_139, e_X9_ship_144, e_X9_ship_146, e_X9_ship_147, e_X9_ship_150, e_X9_ship_155, e_X9_ship_156, e_X9_ship_157, e_X9_ship_160, e_X9_ship_161, e_X9_ship_165, e_X9_ship_170, e_X9_ship_172, e_X9_ship_175, e_X9_ship_32, e_X9_ship_54, e_X9_ship_71, e_X9_ship_93, e_X9_ship_116, cO_0 hY, cg_0_0 hY, cg_0_1 hY, hb_0 hY, cw_0_14 hY, cg_0_2 hY, cO_34 hY, cg_34_0 hY, rP_n, rS_n, xrd_rP, xrd_rS, xfit_rP, xfit_rS, xcat_rP, xcat_rS, nem, su_get, z1e0, z2e0, z3e0, z4e0, z5e0, z0e1, zme0, Nat.reduceEqDiff, not_true_eq_false, and_self, false_or, or_false, or_self,  bI_eq0, bI_eq1, i10, i20, i30, i00, ne_eq, Decidable.not_not, true_and, and_true, false_and, and_false, xrd_ref, xrd_null, xrd_rf, xid_int, xcat_int, xcat_ref, xcat_null, xcat_long, xcat_rf, xfit_int, xfit_0, xfit_1, xfit_ref, xfit_null, xfit_rf, not_false_eq_true, ↓reduceIte, z01_0, z01_1, bI_01, true_or, or_true, c_X9_ship_5 cd_within, c_X9_ship_16 cd_within, c_X9_ship_38 cd_within, h1, h2, h3, n4, n5, c_X9_ship_77 (cO_1 hY) k1, c_X9_ship_97 (cO_2 hY) k2, n6, rm]
            rfl
      · have ee : e_ship s l d t w = 1 := by simp only [e_ship, h3, false_and, and_false, not_false_eq_true, if_true]
        rw [ee, if_pos rfl]
        simp only [e_X9_ship_0, e_X9_ship_1, e_X9_ship_2, e_X9_ship_8, e_X9_ship_11, e_X9_ship_12, e_X9_ship_13, e_X9_ship_19, e_X9_ship_22, e_X9_ship_34, e_X9_ship_35, e_X9_ship_41, e_X9_ship_44, e_X9_ship_56, e_X9_ship_58, e_X9_ship_61, e_X9_ship_73, e_X9_ship_74, e_X9_ship_80, e_X9_ship_83, e_X9_ship_94, e_X9_ship_100, e_X9_ship_103, e_X9_ship_106, e_X9_ship_117, e_X9_ship_118, e_X9_ship_121, e_X9_ship_124, e_X9_ship_125, e_X9_ship_126, e_X9_ship_132, e_X9_ship_133, e_X9_ship_134, e_X9_ship_135, e_X9_ship_137, e_X9_ship_139, e_X9_ship_144, e_X9_ship_146, e_X9_ship_147, e_X9_ship_150, e_X9_ship_155, e_X9_ship_156, e_X9_ship_157, e_X9_ship_160, e_X9_ship_161, e_X9_ship_165, e_X9_ship_170, e_X9_ship_172, e_X9_ship_175, e_X9_ship_32, e_X9_ship_54, e_X9_ship_71, e_X9_ship_93, e_X9_ship_116, cO_0 hY, cg_0_0 hY, cg_0_1 hY, hb_0 hY, cw_0_14 hY, cg_0_2 hY, cO_34 hY, cg_34_0 hY, rP_n, rS_n, xrd_rP, xrd_rS, xfit_rP, xfit_rS, xcat_rP, xcat_rS, nem, su_get, z1e0, z2e0, z3e0, z4e0, z5e0, z0e1, zme0, Nat.reduceEqDiff, not_true_eq_false, and_self, false_or, or_false, or_self,  bI_eq0, bI_eq1, i10, i20, i30, i00, ne_eq, Decidable.not_not, true_and, and_true, false_and, and_false, xrd_ref, xrd_null, xrd_rf, xid_int, xcat_int, xcat_ref, xcat_null, xcat_long, xcat_rf, xfit_int, xfit_0, xfit_1, xfit_ref, xfit_null, xfit_rf, not_false_eq_true, ↓reduceIte, z01_0, z01_1, bI_01, true_or, or_true, c_X9_ship_5 cd_within, c_X9_ship_16 cd_within, c_X9_ship_38 cd_within, h1, h2, h3, rm]
        rfl
    · have ee : e_ship s l d t w = 1 := by simp only [e_ship, h2, false_and, and_false, not_false_eq_true, if_true]
      rw [ee, if_pos rfl]
      simp only [e_X9_ship_0, e_X9_ship_1, e_X9_ship_2, e_X9_ship_8, e_X9_ship_11, e_X9_ship_12, e_X9_ship_13, e_X9_ship_19, e_X9_ship_22, e_X9_ship_34, e_X9_ship_35, e_X9_ship_41, e_X9_ship_44, e_X9_ship_56, e_X9_ship_58, e_X9_ship_61, e_X9_ship_73, e_X9_ship_74, e_X9_ship_80, e_X9_ship_83, e_X9_ship_94, e_X9_ship_100, e_X9_ship_103, e_X9_ship_106, e_X9_ship_117, e_X9_ship_118, e_X9_ship_121, e_X9_ship_124, e_X9_ship_125, e_X9_ship_126, e_X9_ship_132, e_X9_ship_133, e_X9_ship_134, e_X9_ship_135, e_X9_ship_137, e_X9_ship_139, e_X9_ship_144, e_X9_ship_146, e_X9_ship_147, e_X9_ship_150, e_X9_ship_155, e_X9_ship_156, e_X9_ship_157, e_X9_ship_160, e_X9_ship_161, e_X9_ship_165, e_X9_ship_170, e_X9_ship_172, e_X9_ship_175, e_X9_ship_32, e_X9_ship_54, e_X9_ship_71, e_X9_ship_93, e_X9_ship_116, cO_0 hY, cg_0_0 hY, cg_0_1 hY, hb_0 hY, cw_0_14 hY, cg_0_2 hY, cO_34 hY, cg_34_0 hY, rP_n, rS_n, xrd_rP, xrd_rS, xfit_rP, xfit_rS, xcat_rP, xcat_rS, nem, su_get, z1e0, z2e0, z3e0, z4e0, z5e0, z0e1, zme0, Nat.reduceEqDiff, not_true_eq_false, and_self, false_or, or_false, or_self,  bI_eq0, bI_eq1, i10, i20, i30, i00, ne_eq, Decidable.not_not, true_and, and_true, false_and, and_false, xrd_ref, xrd_null, xrd_rf, xid_int, xcat_int, xcat_ref, xcat_null, xcat_long, xcat_rf, xfit_int, xfit_0, xfit_1, xfit_ref, xfit_null, xfit_rf, not_false_eq_true, ↓reduceIte, z01_0, z01_1, bI_01, true_or, or_true, c_X9_ship_5 cd_within, c_X9_ship_16 cd_within, h1, h2, rm]
      rfl
  · have ee : e_ship s l d t w = 1 := by simp only [e_ship, h1, false_and, not_false_eq_true, if_true]
    rw [ee, if_pos rfl]
    simp only [e_X9_ship_0, e_X9_ship_1, e_X9_ship_2, e_X9_ship_8, e_X9_ship_11, e_X9_ship_12, e_X9_ship_13, e_X9_ship_19, e_X9_ship_22, e_X9_ship_34, e_X9_ship_35, e_X9_ship_41, e_X9_ship_44, e_X9_ship_56, e_X9_ship_58, e_X9_ship_61, e_X9_ship_73, e_X9_ship_74, e_X9_ship_80, e_X9_ship_83, e_X9_ship_94, e_X9_ship_100, e_X9_ship_103, e_X9_ship_106, e_X9_ship_117, e_X9_ship_118, e_X9_ship_121, e_X9_ship_124, e_X9_ship_125, e_X9_ship_126, e_X9_ship_132, e_X9_ship_133, e_X9_ship_134, e_X9_ship_135, e_X9_ship_137, e_X9_ship_139, e_X9_ship_144, e_X9_ship_146, e_X9_ship_147, e_X9_ship_150, e_X9_ship_155, e_X9_ship_156, e_X9_ship_157, e_X9_ship_160, e_X9_ship_161, e_X9_ship_165, e_X9_ship_170, e_X9_ship_172, e_X9_ship_175, e_X9_ship_32, e_X9_ship_54, e_X9_ship_71, e_X9_ship_93, e_X9_ship_116, cO_0 hY, cg_0_0 hY, cg_0_1 hY, hb_0 hY, cw_0_14 hY, cg_0_2 hY, cO_34 hY, cg_34_0 hY, rP_n, rS_n, xrd_rP, xrd_rS, xfit_rP, xfit_rS, xcat_rP, xcat_rS, nem, su_get, z1e0, z2e0, z3e0, z4e0, z5e0, z0e1, zme0, Nat.reduceEqDiff, not_true_eq_false, and_self, false_or, or_false, or_self,  bI_eq0, bI_eq1, i10, i20, i30, i00, ne_eq, Decidable.not_not, true_and, and_true, false_and, and_false, xrd_ref, xrd_null, xrd_rf, xid_int, xcat_int, xcat_ref, xcat_null, xcat_long, xcat_rf, xfit_int, xfit_0, xfit_1, xfit_ref, xfit_null, xfit_rf, not_false_eq_true, ↓reduceIte, z01_0, z01_1, bI_01, true_or, or_true, c_X9_ship_5 cd_within, h1, rm]
    rfl
theorem insO_o {i F j : Nat} (h1 : F ≠ 93) (h2 : F ≠ 90) (h3 : F ≠ 63) : insO o S i F j = o F j := by
  simp only [insO, h1, h2, h3, false_and, if_false]
theorem ship_b {i l d t w q : Int32} {c : Nat → Int32} {a7 : Option Value} (hY : zok g A z P (S + 1)) (hS : s 19 0 = nI S) (h1 : S ≤ z.1.2.2 1) (h2 : S ≤ z.1.2.2 2) (hn : o 90 0 = nI S) (hc : ∀ j, j < S → ∃ y, y < S ∧ o 93 j = nI y ∧ s 21 y = c j) : ∃ z', zle g A z z' P (S + 1) ∧ (S + 1 ≤ z'.1.2.2 1 ∧ S + 1 ≤ z'.1.2.2 2) ∧ Ev g 57 144 [some (.ref (A 0 0)), some (.int i), some (.int l), some (.int d), some (.int t), some (.int w), some (.int q), a7] [.ref (A 34 S)] (cp A z s o) (.inl (some (.int (nI S))), cp A z' (su s 19 0 (nI (S + 1))) (insO (mc o 1) S (plB c l S 0))) := by
  have h4 := hY.2.2.2.2.2.1.2
  obtain ⟨z1, q1, q2, k1⟩ := cl_add (g := g) (s := s) (o := o) (s' := su s 19 0 (nI (S + 1))) (o' := mc o 1) hY (l := 1) (n := S) (x := S) (by decide) hS h1 (by omega) (fun j hj => lvS 34 (by decide) (by decide) (show j < S + 1 by omega)) (lvS 34 (by decide) (by decide) (by omega)) (lch_s rfl (lch_o (v := o 63 1 + 1) (F := 63) (j := 1) rfl lch_refl)) (mc_63 _ 1) (by simp [sz, su]) (fun j hj => rfl) rfl
  have hY1 := q1.1
  have k2 := cd_placeBy (g := g) (A := A) (z := z1) (s := su s 19 0 (nI (S + 1))) (o := mc o 1) (P := P) (S := S) (S' := S + 1) (l := l) (c := c) (a2 := none) hY1 (by rw [mc_o _ _ (by decide)]; exact hn) (by omega) (Nat.le_trans h2 (q1.2.2.2.2 2)) (fun j hj => by
    obtain ⟨y, y1, y2, y3⟩ := hc j hj
    exact ⟨y, by omega, by rw [mc_o _ _ (by decide)]; exact y2, by simp only [su_get, Nat.reduceEqDiff, false_and, if_false]; exact y3⟩) (by omega)
  have pl := (plB_le c l S 0).2.1
  obtain ⟨z2, q3, q4, k3⟩ := cl_addAt (g := g) (A := A) (z := z1) (s := su s 19 0 (nI (S + 1))) (o := mc o 1) (s' := su s 19 0 (nI (S + 1))) (o' := insO (mc o 1) S (plB c l S 0)) hY1 (l := 2) (n := S) (x := S) (i := plB c l S 0) (by decide) (by simp only [sz]; rw [mc_o _ _ (by decide)]; exact hn) (Nat.le_trans h2 (q1.2.2.2.2 2)) (by omega) (by omega) (fun j hj => by
    obtain ⟨y, y1, y2, y3⟩ := hc j hj
    simp only [lk, nu]
    rw [mc_o _ _ (by decide), y2, nI_clamp (by omega)]
    exact lvS 34 (by decide) (by decide) (by omega)) (lvS 34 (by decide) (by decide) (by omega)) ⟨fun _ _ _ => rfl, fun F j e => by
      simp only [insO]
      rw [if_neg (by rintro rfl; exact e rfl), if_neg (by rintro ⟨rfl, rfl⟩; exact e rfl), if_neg (by rintro ⟨rfl, rfl⟩; exact e rfl)]⟩ (by simp [insO]) (by simp [sz, insO]) (fun j hj => by
      simp only [nu, insO, if_true]
      by_cases x1 : j < plB c l S 0
      · rw [if_pos x1, if_pos x1]
      · rw [if_neg x1, if_neg x1]
        by_cases x2 : j = plB c l S 0
        · rw [if_pos x2, if_pos x2, nI_clamp (by omega)]
        · rw [if_neg x2, if_neg x2])
  have hY2 := q3.1
  refine ⟨z2, zle_trans q1 q3, ⟨Nat.le_trans q2 (q3.2.2.2.2 1), q4⟩, ?_⟩
  have hp : S < S + 1 := by omega
  simp only [lk] at k1 k3
  simp only [e_X9_ship_144, e_X9_ship_146, e_X9_ship_147, e_X9_ship_150, e_X9_ship_155, e_X9_ship_156, e_X9_ship_157, e_X9_ship_160, e_X9_ship_161, e_X9_ship_165, e_X9_ship_170, e_X9_ship_172, e_X9_ship_175, cO_0 hY, cg_0_1 hY, nem, su_get, z1e0, z2e0, z3e0, z4e0, z5e0, z0e1, zme0, Nat.reduceEqDiff, not_true_eq_false, and_self, false_or, or_false, or_self,  bI_eq0, bI_eq1, i10, i20, i30, i00, ne_eq, Decidable.not_not, true_and, and_true, false_and, and_false, xrd_ref, xrd_null, xrd_rf, xid_int, xcat_int, xcat_ref, xcat_null, xcat_long, xcat_rf, xfit_int, xfit_0, xfit_1, xfit_ref, xfit_null, xfit_rf, not_false_eq_true, ↓reduceIte, z01_0, z01_1, bI_01, true_or, or_true, c_X9_ship_152 _ (cO_2 hY) k1, cO_0 hY1, cg_0_2 hY1, c_X9_ship_162 _ (cO_0 hY1) k2, c_X9_ship_167 _ (cO_3 hY1) k3, cO_34 hY2 hp, cg_34_0 hY2 hp]
end SC
