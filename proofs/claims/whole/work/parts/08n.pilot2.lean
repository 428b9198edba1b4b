/-! ===== the class's pilot ===== -/
section PC
variable {g : Nat × Nat × Nat} {A : Nat → Nat → Nat} {z : zT} {s o : mS} {P S : Nat}
theorem lv_P (k i : Nat) : lv z (P + 1) S k i ↔ lv z P S k i ∨ (30 ≤ k ∧ k < 30 + 4 ∧ i = P) := by
  unfold lv
  constructor
  · rintro (h | h | h)
    · exact Or.inl (Or.inl h)
    · by_cases e : i = P
      · right; omega
      · left; right; left; omega
    · exact Or.inl (Or.inr (Or.inr h))
  · rintro ((h | h | h) | h)
    · exact Or.inl h
    · right; left; omega
    · exact Or.inr (Or.inr h)
    · right; left; omega
theorem pilotX {k l d : Int32} {a4 : Option Value} (hY : zok g A z P S) (hP : s 2 0 = nI P) (he : e_pilot s k l d ≠ 0) : Ev g 56 0 [some (.ref (A 0 0)), some (.int k), some (.int l), some (.int d), a4] [] (cp A z s o) (.inr (if e_pilot s k l d = 1 then 0 else 2), bmp (cp A z s o)) := by
  have rm := zrm (s := s) (o := o) hY (show 6 ≤ 100000 by decide)
  have h6 := hY.2.2.2.2.2.1.1
  have k1 := cl_size (s := s) (o := o) hY (l := 0) (by decide)
  simp only [sz, hP] at k1
  by_cases h1 : 0 ≤ k ∧ k ≤ 4
  · by_cases h2 : 0 ≤ l ∧ l ≤ 400
    · by_cases h3 : 0 ≤ d ∧ d ≤ 200
      · have e2 : s 2 0 = 60 := by
          apply Decidable.byContradiction
          intro e
          exact he (by simp only [e_pilot, h1, h2, h3, and_self, not_true_eq_false, if_false, e])
        have ee : e_pilot s k l d = 2 := by simp only [e_pilot, h1, h2, h3, and_self, not_true_eq_false, if_false, e2, if_true]
        have n1 : ¬ nI P < 60 := by rw [← hP, e2]; decide
        rw [ee, if_neg (by decide)]
        simp only [e_X9_pilot_0, e_X9_pilot_1, e_X9_pilot_2, e_X9_pilot_6, e_X9_pilot_9, e_X9_pilot_20, e_X9_pilot_21, e_X9_pilot_27, e_X9_pilot_30, e_X9_pilot_31, e_X9_pilot_32, e_X9_pilot_38, e_X9_pilot_41, e_X9_pilot_52, e_X9_pilot_58, e_X9_pilot_60, e_X9_pilot_63, e_X9_pilot_74, e_X9_pilot_75, e_X9_pilot_78, e_X9_pilot_81, e_X9_pilot_82, e_X9_pilot_83, e_X9_pilot_89, e_X9_pilot_90, e_X9_pilot_91, e_X9_pilot_95, e_X9_pilot_97, e_X9_pilot_98, e_X9_pilot_101, e_X9_pilot_106, e_X9_pilot_107, e_X9_pilot_108, e_X9_pilot_111, e_X9_pilot_116, e_X9_pilot_118, e_X9_pilot_121, e_X9_pilot_19, e_X9_pilot_51, e_X9_pilot_73, cO_0 hY, cg_0_0 hY, hb_0 hY, cw_0_14 hY, cg_0_6 hY, cO_30 hY, cg_30_0 hY, rP_n, rS_n, xrd_rP, xrd_rS, xfit_rP, xfit_rS, xcat_rP, xcat_rS, nem, su_get, z1e0, z2e0, z3e0, z4e0, z5e0, z0e1, zme0, Nat.reduceEqDiff, not_true_eq_false, and_self, false_or, or_false, or_self,  bI_eq0, bI_eq1, i10, i20, i30, i00, ne_eq, Decidable.not_not, true_and, and_true, false_and, and_false, xrd_ref, xrd_null, xrd_rf, xid_int, xcat_int, xcat_ref, xcat_null, xcat_long, xcat_rf, xfit_int, xfit_0, xfit_1, xfit_ref, xfit_null, xfit_rf, not_false_eq_true, ↓reduceIte, z01_0, z01_1, bI_01, true_or, or_true, c_X9_pilot_3 cd_within, c_X9_pilot_24 cd_within, c_X9_pilot_35 cd_within, h1, h2, h3, c_X9_pilot_55 (cO_1 hY) k1, n1, rm]
        rfl
      · have ee : e_pilot s k l d = 1 := by simp only [e_pilot, h3, and_false, not_false_eq_true, if_true]
        rw [ee, if_pos rfl]
        simp only [e_X9_pilot_0, e_X9_pilot_1, e_X9_pilot_2, e_X9_pilot_6, e_X9_pilot_9, e_X9_pilot_20, e_X9_pilot_21, e_X9_pilot_27, e_X9_pilot_30, e_X9_pilot_31, e_X9_pilot_32, e_X9_pilot_38, e_X9_pilot_41, e_X9_pilot_52, e_X9_pilot_58, e_X9_pilot_60, e_X9_pilot_63, e_X9_pilot_74, e_X9_pilot_75, e_X9_pilot_78, e_X9_pilot_81, e_X9_pilot_82, e_X9_pilot_83, e_X9_pilot_89, e_X9_pilot_90, e_X9_pilot_91, e_X9_pilot_95, e_X9_pilot_97, e_X9_pilot_98, e_X9_pilot_101, e_X9_pilot_106, e_X9_pilot_107, e_X9_pilot_108, e_X9_pilot_111, e_X9_pilot_116, e_X9_pilot_118, e_X9_pilot_121, e_X9_pilot_19, e_X9_pilot_51, e_X9_pilot_73, cO_0 hY, cg_0_0 hY, hb_0 hY, cw_0_14 hY, cg_0_6 hY, cO_30 hY, cg_30_0 hY, rP_n, rS_n, xrd_rP, xrd_rS, xfit_rP, xfit_rS, xcat_rP, xcat_rS, nem, su_get, z1e0, z2e0, z3e0, z4e0, z5e0, z0e1, zme0, Nat.reduceEqDiff, not_true_eq_false, and_self, false_or, or_false, or_self,  bI_eq0, bI_eq1, i10, i20, i30, i00, ne_eq, Decidable.not_not, true_and, and_true, false_and, and_false, xrd_ref, xrd_null, xrd_rf, xid_int, xcat_int, xcat_ref, xcat_null, xcat_long, xcat_rf, xfit_int, xfit_0, xfit_1, xfit_ref, xfit_null, xfit_rf, not_false_eq_true, ↓reduceIte, z01_0, z01_1, bI_01, true_or, or_true, c_X9_pilot_3 cd_within, c_X9_pilot_24 cd_within, c_X9_pilot_35 cd_within, h1, h2, h3, rm]
        rfl
    · have ee : e_pilot s k l d = 1 := by simp only [e_pilot, h2, and_false, false_and, not_false_eq_true, if_true]
      rw [ee, if_pos rfl]
      simp only [e_X9_pilot_0, e_X9_pilot_1, e_X9_pilot_2, e_X9_pilot_6, e_X9_pilot_9, e_X9_pilot_20, e_X9_pilot_21, e_X9_pilot_27, e_X9_pilot_30, e_X9_pilot_31, e_X9_pilot_32, e_X9_pilot_38, e_X9_pilot_41, e_X9_pilot_52, e_X9_pilot_58, e_X9_pilot_60, e_X9_pilot_63, e_X9_pilot_74, e_X9_pilot_75, e_X9_pilot_78, e_X9_pilot_81, e_X9_pilot_82, e_X9_pilot_83, e_X9_pilot_89, e_X9_pilot_90, e_X9_pilot_91, e_X9_pilot_95, e_X9_pilot_97, e_X9_pilot_98, e_X9_pilot_101, e_X9_pilot_106, e_X9_pilot_107, e_X9_pilot_108, e_X9_pilot_111, e_X9_pilot_116, e_X9_pilot_118, e_X9_pilot_121, e_X9_pilot_19, e_X9_pilot_51, e_X9_pilot_73, cO_0 hY, cg_0_0 hY, hb_0 hY, cw_0_14 hY, cg_0_6 hY, cO_30 hY, cg_30_0 hY, rP_n, rS_n, xrd_rP, xrd_rS, xfit_rP, xfit_rS, xcat_rP, xcat_rS, nem, su_get, z1e0, z2e0, z3e0, z4e0, z5e0, z0e1, zme0, Nat.reduceEqDiff, not_true_eq_false, and_self, false_or, or_false, or_self,  bI_eq0, bI_eq1, i10, i20, i30, i00, ne_eq, Decidable.not_not, true_and, and_true, false_and, and_false, xrd_ref, xrd_null, xrd_rf, xid_int, xcat_int, xcat_ref, xcat_null, xcat_long, xcat_rf, xfit_int, xfit_0, xfit_1, xfit_ref, xfit_null, xfit_rf, not_false_eq_true, ↓reduceIte, z01_0, z01_1, bI_01, true_or, or_true, c_X9_pilot_3 cd_within, c_X9_pilot_24 cd_within, c_X9_pilot_35 cd_within, h1, h2, rm]
      rfl
  · have ee : e_pilot s k l d = 1 := by simp only [e_pilot, h1, false_and, not_false_eq_true, if_true]
    rw [ee, if_pos rfl]
    simp only [e_X9_pilot_0, e_X9_pilot_1, e_X9_pilot_2, e_X9_pilot_6, e_X9_pilot_9, e_X9_pilot_20, e_X9_pilot_21, e_X9_pilot_27, e_X9_pilot_30, e_X9_pilot_31, e_X9_pilot_32, e_X9_pilot_38, e_X9_pilot_41, e_X9_pilot_52, e_X9_pilot_58, e_X9_pilot_60, e_X9_pilot_63, e_X9_pilot_74, e_X9_pilot_75, e_X9_pilot_78, e_X9_pilot_81, e_X9_pilot_82, e_X9_pilot_83, e_X9_pilot_89, e_X9_pilot_90, e_X9_pilot_91, e_X9_pilot_95, e_X9_pilot_97, e_X9_pilot_98, e_X9_pilot_101, e_X9_pilot_106, e_X9_pilot_107, e_X9_pilot_108, e_X9_pilot_111, e_X9_pilot_116, e_X9_pilot_118, e_X9_pilot_121, e_X9_pilot_19, e_X9_pilot_51, e_X9_pilot_73, cO_0 hY, cg_0_0 hY, hb_0 hY, cw_0_14 hY, cg_0_6 hY, cO_30 hY, cg_30_0 hY, rP_n, rS_n, xrd_rP, xrd_rS, xfit_rP, xfit_rS, xcat_rP, xcat_rS, nem, su_get, z1e0, z2e0, z3e0, z4e0, z5e0, z0e1, zme0, Nat.reduceEqDiff, not_true_eq_false, and_self, false_or, or_false, or_self,  bI_eq0, bI_eq1, i10, i20, i30, i00, ne_eq, Decidable.not_not, true_and, and_true, false_and, and_false, xrd_ref, xrd_null, xrd_rf, xid_int, xcat_int, xcat_ref, xcat_null, xcat_long, xcat_rf, xfit_int, xfit_0, xfit_1, xfit_ref, xfit_null, xfit_rf, not_false_eq_true, ↓reduceIte, z01_0, z01_1, bI_01, true_or, or_true, c_X9_pilot_3 cd_within, h1, rm]
    rfl
theorem pilot_b {L : Nat} {a1 a2 a3 a4 : Option Value} (hY : zok g A z (P + 1) S) (hP : s 2 0 = nI P) (hcap : P ≤ z.1.2.2 0) (hl : lOK s P L) (hc : L ≤ z.1.2.2 3) : ∃ z', zle g A z z' (P + 1) S ∧ (P + 1 ≤ z'.1.2.2 0 ∧ L + 1 ≤ z'.1.2.2 3) ∧ Ev g 56 95 [some (.ref (A 0 0)), a1, a2, a3, a4] [.ref (A 30 P)] (cp A z s o) (.inl (some (.int (nI P))), cp A z' (apS (su s 2 0 (nI (P + 1))) (nI P) L) (mc (mc o 0) 3)) := by
  have h6 := hY.2.2.2.2.2.1.1
  obtain ⟨z1, q1, q2, k1⟩ := cl_add (g := g) (s := s) (o := o) (s' := su s 2 0 (nI (P + 1))) (o' := mc o 0) hY (l := 0) (n := P) (x := P) (by decide) hP hcap (by omega) (fun j hj => lvP 30 (by decide) (by decide) (show j < P + 1 by omega)) (lvP 30 (by decide) (by decide) (by omega)) (lch_s rfl (lch_o (v := o 63 0 + 1) (F := 63) (j := 0) rfl lch_refl)) (mc_63 _ 0) (by simp [sz, su]) (fun j hj => rfl) rfl
  have hl' : lOK (su s 2 0 (nI (P + 1))) (P + 1) L := by
    obtain ⟨x1, x2, x3, x4⟩ := hl
    refine ⟨?_, by omega, fun k hk => ?_, fun j k hj hk => ?_⟩
    · simp only [su_get, Nat.reduceEqDiff, false_and, if_false]; exact x1
    · simp only [su_get, Nat.reduceEqDiff, false_and, if_false]
      obtain ⟨p, hp, e⟩ := x3 k hk
      exact ⟨p, by omega, e⟩
    · simp only [su_get, Nat.reduceEqDiff, false_and, if_false]; exact x4 j k hj hk
  obtain ⟨z2, q3, q4, k2⟩ := cd_append (g := g) (A := A) (z := z1) (S := S) (o := mc o 0) (p := P) q1.1 hl' (Nat.le_trans hc (q1.2.2.2.2 3)) (by omega)
  refine ⟨z2, zle_trans q1 q3, ⟨Nat.le_trans q2 (q3.2.2.2.2 0), q4⟩, ?_⟩
  have hY1 := q1.1
  have hY2 := q3.1
  have hp : P < P + 1 := by omega
  simp only [lk] at k1
  simp only [e_X9_pilot_95, e_X9_pilot_97, e_X9_pilot_98, e_X9_pilot_101, e_X9_pilot_106, e_X9_pilot_107, e_X9_pilot_108, e_X9_pilot_111, e_X9_pilot_116, e_X9_pilot_118, e_X9_pilot_121, cO_0 hY, cg_0_0 hY, nem, su_get, z1e0, z2e0, z3e0, z4e0, z5e0, z0e1, zme0, Nat.reduceEqDiff, not_true_eq_false, and_self, false_or, or_false, or_self,  bI_eq0, bI_eq1, i10, i20, i30, i00, ne_eq, Decidable.not_not, true_and, and_true, false_and, and_false, xrd_ref, xrd_null, xrd_rf, xid_int, xcat_int, xcat_ref, xcat_null, xcat_long, xcat_rf, xfit_int, xfit_0, xfit_1, xfit_ref, xfit_null, xfit_rf, not_false_eq_true, ↓reduceIte, z01_0, z01_1, bI_01, true_or, or_true, c_X9_pilot_103 _ (cO_1 hY) k1, cO_0 hY1, cg_0_6 hY1, c_X9_pilot_113 _ (cO_19 hY1) k2, cO_30 hY2 hp, cg_30_0 hY2 hp]
theorem cd_pilot {k l d : Int32} {L : Nat} {a4 : Option Value} (hz : zo g A z o P S) (hP : s 2 0 = nI P) (hl : lOK s P L) (hc : L ≤ z.1.2.2 3) (hr : refs s o P S) (hf : frP s P) (he : e_pilot s k l d = 0) (r1 : z.2.1 + 4 ≤ g.1 + 500000 + cps z) (r2 : z.2.2.1 + 427 ≤ 3000000 + sqs z) : ∃ z', zle g (grA A 30 4 P z.2.1) (grz z 30 4 P 427) z' (P + 1) S ∧ (P + 1 ≤ z'.1.2.2 0 ∧ L + 1 ≤ z'.1.2.2 3) ∧ Ev g 56 0 [some (.ref (A 0 0)), some (.int k), some (.int l), some (.int d), a4] [] (cp A z s o) (.inl (some (.int (r_pilot s k l d))), cp (grA A 30 4 P z.2.1) z' (f_pilot s k l d) (mc (mc (pnO (su o 60 0 0) P) 0) 3)) := by
  have hY := hz.1
  have h6 := hY.2.2.2.2.2.1.1
  have hS := hY.2.2.2.2.2.1.2
  have h1 : 0 ≤ k ∧ k ≤ 4 := by
    apply Decidable.byContradiction; intro e
    simp only [e_pilot, e, false_and, not_false_eq_true, if_true] at he
    exact absurd he (by decide)
  have h2 : 0 ≤ l ∧ l ≤ 400 := by
    apply Decidable.byContradiction; intro e
    simp only [e_pilot, e, false_and, and_false, not_false_eq_true, if_true] at he
    exact absurd he (by decide)
  have h3 : 0 ≤ d ∧ d ≤ 200 := by
    apply Decidable.byContradiction; intro e
    simp only [e_pilot, e, and_false, not_false_eq_true, if_true] at he
    exact absurd he (by decide)
  have h4 : ¬ s 2 0 = 60 := by
    intro e
    simp only [e_pilot, h1, h2, h3, and_self, not_true_eq_false, if_false, e, if_true] at he
    exact absurd he (by decide)
  have hP6 : P < 60 := by
    have := nI_ne (a := P) (b := 60) (by rw [← hP]; exact h4)
    omega
  have n1 : nI P < 60 := by
    have := nI_lt (a := P) (b := 60) hP6 (by decide)
    exact this
  have k1 := cl_size (s := s) (o := o) hY (l := 0) (by decide)
  simp only [sz, hP] at k1
  have hg : g.1 ≤ z.2.1 := Nat.le_trans (hb_0 hY) (Nat.le_of_lt (hY.1 0 0 (lvF 0 (by decide) (by decide))).2.2)
  have hA0 : A 0 0 ≠ z.2.1 := Nat.ne_of_lt (hY.1 0 0 (lvF 0 (by decide) (by decide))).2.2
  have hA1 : A 1 0 ≠ z.2.1 := Nat.ne_of_lt (hY.1 1 0 (lvF 1 (by decide) (by decide))).2.2
  have rm9 := zrm (s := s) (o := su o 60 0 0) hY (show 9 ≤ 100000 by decide)
  have hq := hY.2.2.2.2.1
  have q : ∀ l, l < 6 → z.1.2.2 l * z.1.2.2 l ≤ 490000 := fun l hl => Nat.mul_le_mul (hq l hl) (hq l hl)
  have p0 := hq 0 (by decide); have p1 := hq 1 (by decide); have p2 := hq 2 (by decide); have p3 := hq 3 (by decide); have p4 := hq 4 (by decide); have p5 := hq 5 (by decide)
  have b0 := q 0 (by decide); have b1 := q 1 (by decide); have b2 := q 2 (by decide); have b3 := q 3 (by decide); have b4 := q 4 (by decide); have b5 := q 5 (by decide)
  have r1' := r1
  have r2' := r2
  unfold cps at r1'
  unfold sqs at r2'
  obtain ⟨H, k3, H1, H2, c0, c1, c2, c3, c4⟩ := in_X3 (g := g) (K := nx (cp A z s (su o 60 0 0)) 9) (a := z.2.1) (p := nI P) (k := k) (l := l) (d := d) hg (show z.2.1 < z.2.1 + 1 by omega) (show z.2.1 + 1 + 3 ≤ g.1 + 601024 by omega) (show z.2.2.1 + 9 + 418 ≤ 7293034 by omega)
  have eH := np_cp (s := s) (o := su o 60 0 0) (k := k) (l := l) (d := d) hY h6 hS (refs_o (fun F j h _ => by simp only [su_get, h, false_and, if_false]) hr) hf H1 H2 c0 c1 c2 c3 (fun b x1 x2 x3 x4 => c4 b x1 x2 x3 x4)
  rw [eH] at k3
  have hY1 : zok g (grA A 30 4 P z.2.1) (grz z 30 4 P 427) (P + 1) S := gro hY lv_P (by decide) (fun k x1 x2 h => by unfold lv at h; omega) ⟨by omega, hS⟩ r1 r2
  obtain ⟨z', q1, q2, k4⟩ := pilot_b (g := g) (A := grA A 30 4 P z.2.1) (z := grz z 30 4 P 427) (s := pnS s P k l d) (o := pnO (su o 60 0 0) P) (S := S) (P := P) (L := L) (a1 := some (.int k)) (a2 := some (.int l)) (a3 := some (.int d)) (a4 := a4) hY1 (by rw [pnS_o (by omega)]; exact hP) hz.2.1.1 (by
    obtain ⟨x1, x2, x3, x4⟩ := hl
    refine ⟨?_, x2, fun k hk => ?_, fun j k hj hk => ?_⟩
    · rw [pnS_o (by omega)]; exact x1
    · rw [pnS_o (by omega)]; exact x3 k hk
    · rw [pnS_o (by omega), pnS_o (by omega)]; exact x4 j k hj hk) hc
  refine ⟨z', q1, q2, ?_⟩
  have e0 : grA A 30 4 P z.2.1 0 0 = A 0 0 := gr_o (by omega)
  have e30 : grA A 30 4 P z.2.1 30 P = z.2.1 := gr_n (by decide) (by decide)
  rw [e0, e30] at k4
  have k86 : ∀ {vs : List Value}, Ev g 3 0 [some (.ref (A 1 0))] [] (ob (nx (cp A z s (su o 60 0 0)) 9) z.2.1 4 vs) (.inl (some (.int (nI P))), ob (nx (cp A z s (su o 60 0 0)) 9) z.2.1 4 vs) := fun {vs} => ls_size (by rw [ob_On hA1, nx_O]; exact cO_1 hY) (by rw [ob_gn hA1, nx_g, cg_1_2 hY]; simp only [sz, hP])
  have hO0 : ∀ {vs : List Value}, xO (ob (nx (cp A z s (su o 60 0 0)) 9) z.2.1 4 vs) (A 0 0) 10 = true := fun {vs} => by rw [ob_On hA0, nx_O]; exact cO_0 hY
  have hg0 : ∀ {vs : List Value}, xg (ob (nx (cp A z s (su o 60 0 0)) 9) z.2.1 4 vs) (A 0 0) 0 = .ref (A 1 0) := fun {vs} => by rw [ob_gn hA0, nx_g]; exact cg_0_0 hY
  have hO1 : ∀ {vs : List Value}, xO (ob (nx (cp A z s (su o 60 0 0)) 9) z.2.1 4 vs) (A 1 0) 0 = true := fun {vs} => by rw [ob_On hA1, nx_O]; exact cO_1 hY
  have ef : cp (grA A 30 4 P z.2.1) z' (f_pilot s k l d) (mc (mc (pnO (su o 60 0 0) P) 0) 3) = cp (grA A 30 4 P z.2.1) z' (apS (su (pnS s P k l d) 2 0 (nI (P + 1))) (nI P) L) (mc (mc (pnO (su o 60 0 0) P) 0) 3) := by
    have cP : (nI P).toNatClampNeg = P := nI_clamp (by omega)
    have cL : (nI L).toNatClampNeg = L := nI_clamp (by have := hl.2.1; omega)
    refine cp_x q1.1 (fun F j h0 _ _ _ h52 => ?_)
    simp only [f_pilot, he, if_true, hP, hl.1, cP, cL, apS, pnS, nI_1]
    simp only [su_get, h0, h52, false_and, if_false]
  have er : r_pilot s k l d = nI P := by simp only [r_pilot, he, if_true, hP]
  rw [ef, er]
  simp only [e_X9_pilot_0, e_X9_pilot_1, e_X9_pilot_2, e_X9_pilot_6, e_X9_pilot_9, e_X9_pilot_20, e_X9_pilot_21, e_X9_pilot_27, e_X9_pilot_30, e_X9_pilot_31, e_X9_pilot_32, e_X9_pilot_38, e_X9_pilot_41, e_X9_pilot_52, e_X9_pilot_58, e_X9_pilot_60, e_X9_pilot_63, e_X9_pilot_74, e_X9_pilot_75, e_X9_pilot_78, e_X9_pilot_81, e_X9_pilot_82, e_X9_pilot_83, e_X9_pilot_89, e_X9_pilot_90, e_X9_pilot_91, e_X9_pilot_19, e_X9_pilot_51, e_X9_pilot_73, cO_0 hY, cg_0_0 hY, hb_0 hY, cw_0_14 hY, cg_0_6 hY, cO_30 hY, cg_30_0 hY, rP_n, rS_n, xrd_rP, xrd_rS, xfit_rP, xfit_rS, xcat_rP, xcat_rS, nem, su_get, z1e0, z2e0, z3e0, z4e0, z5e0, z0e1, zme0, Nat.reduceEqDiff, not_true_eq_false, and_self, false_or, or_false, or_self,  bI_eq0, bI_eq1, i10, i20, i30, i00, ne_eq, Decidable.not_not, true_and, and_true, false_and, and_false, xrd_ref, xrd_null, xrd_rf, xid_int, xcat_int, xcat_ref, xcat_null, xcat_long, xcat_rf, xfit_int, xfit_0, xfit_1, xfit_ref, xfit_null, xfit_rf, not_false_eq_true, ↓reduceIte, z01_0, z01_1, bI_01, true_or, or_true, c_X9_pilot_3 cd_within, c_X9_pilot_24 cd_within, c_X9_pilot_35 cd_within, h1, h2, h3, c_X9_pilot_55 (cO_1 hY) k1, n1, rm9, nw_4, show (cp A z s (su o 60 0 0)).1 = z.2.1 from rfl, hO0, hg0, hO1, c_X9_pilot_86 _ _ _ k86, c_X9_pilot_92 _ k3]
  exact k4
end PC
