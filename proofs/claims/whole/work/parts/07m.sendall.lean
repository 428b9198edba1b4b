/-! ===== the class: all ships that wait are sent ===== -/
section CW
variable {g : Nat × Nat × Nat} {A : Nat → Nat → Nat} {P S : Nat}
theorem sn_01 (x H : Nat) (first : Int32) (q : Int32 × mS) : (snC x H first q).1 = 0 ∨ (snC x H first q).1 = 1 := by
  unfold snC
  split <;> simp
theorem fs_01 (s : mS) (x H : Nat) : (f_sends s x H).1 = 0 ∨ (f_sends s x H).1 = 1 := by
  unfold f_sends
  split
  · exact Or.inl rfl
  · exact sn_01 _ _ _ _
theorem lp_csend {H M : Nat} {u w : Nat → Nat} {W : Nat → Prop} {hW : ∀ y, Decidable (W y)} (hH : H < 9600) (hS : S ≤ 400) (hq : ∀ i, i < S → W (u i) → cnt W u hW i < M ∧ w (cnt W u hW i) = u i) (hqM : cnt W u hW S = M) (hui : ∀ i j, i < S → j < S → u i = u j → i = j) (hws : ∀ a, a < M → w a < S) : ∀ (f i B L : Nat) (z : zT) (o s : mS) (n : Int32) (a4 : Option Value), i + f = S → zo g A z o P S → siv s P S L H → L ≤ z.1.2.2 3 → kOK s P → wOK s P S → tOK s → s 2 0 = nI P → s 47 0 = nI B → B + 120 * f + 120 < 2 ^ 31 → (∀ j, j < S → o 93 j = nI (u j) ∧ u j < S) → (∀ a, a < M → s 50 a = nI (w a)) → (∀ j, i ≤ j → j < S → (W (u j) ↔ (s 26 (u j) = 0 ∧ s 23 (u j) ≤ nI H))) → ∃ z' o' L', ze g A P S z o z' o' ∧ L' ≤ L ∧ siv (sdS H (M - cnt W u hW i) (cnt W u hW i) n s).2 P S L' H ∧ Ev g 86 19 [some (.ref (A 0 0)), some (.int (nI H)), some (.int n), some (.int (nI i)), a4] [] (cp A z s o) (.inl (some (.int (sdS H (M - cnt W u hW i) (cnt W u hW i) n s).1)), cp A z' (sdS H (M - cnt W u hW i) (cnt W u hW i) n s).2 o') := by
  intro f
  induction f with
  | zero =>
    intro i B L z o s n a4 hi hz hv hc hkk hw ht hP hA hB hu h50 hWW
    have hY := hz.1
    have e : i = S := by omega
    subst e
    rw [hqM, Nat.sub_self]
    have k1 := cl_size (s := s) (o := o) hY (l := 2) (by decide)
    simp only [sz, hz.2.2.1.1] at k1
    have h2 : nI i ≤ nI i := nI_le (Nat.le_refl _) (by omega)
    refine ⟨z, o, L, ze_refl hz, Nat.le_refl _, hv, ?_⟩
    simp only [e_X9_sendShips_19, e_X9_sendShips_20, e_X9_sendShips_21, e_X9_sendShips_27, e_X9_sendShips_30, e_X9_sendShips_31, e_X9_sendShips_34, e_X9_sendShips_38n, e_X9_sendShips_38, e_X9_sendShips_41, e_X9_sendShips_43, e_X9_sendShips_45, e_X9_sendShips_48, e_X9_sendShips_51, e_X9_sendShips_54, e_X9_sendShips_56, e_X9_sendShips_59, e_X9_sendShips_60, e_X9_sendShips_63, e_X9_sendShips_64, e_X9_sendShips_66, e_X9_sendShips_70, e_X9_sendShips_73, e_X9_sendShips_76, e_X9_sendShips_79, e_X9_sendShips_82, e_X9_sendShips_83, cO_0 hY, cg_0_4 hY, cg_0_10 hY, hb_0 hY, cw_0_12 hY, cg_0_2 hY, cO_34 hY, cg_34_7 hY, cO_35 hY, cg_35_0 hY, cO_36 hY, cg_36_0 hY, cg_34_4 hY, rP_n, rS_n, xrd_rP, xrd_rS, xfit_rP, xfit_rS, xcat_rP, xcat_rS, nem, su_get, z1e0, z2e0, z3e0, z4e0, z5e0, z0e1, zme0, Nat.reduceEqDiff, not_true_eq_false, and_self, false_or, or_false, or_self,  bI_eq0, bI_eq1, i10, i20, i30, i00, ne_eq, Decidable.not_not, true_and, and_true, false_and, and_false, xrd_ref, xrd_null, xrd_rf, xid_int, xcat_int, xcat_ref, xcat_null, xcat_long, xcat_rf, xfit_int, xfit_0, xfit_1, xfit_ref, xfit_null, xfit_rf, not_false_eq_true, ↓reduceIte, z01_0, z01_1, bI_01, true_or, or_true, c_X9_sendShips_24 (cO_3 hY) k1, h2, sdS]
  | succ f ih =>
    intro i B L z o s n a4 hi hz hv hc hkk hw ht hP hA hB hu h50 hWW
    have hY := hz.1
    have hP60 := hY.2.2.2.2.2.1.1
    have k1 := cl_size (s := s) (o := o) hY (l := 2) (by decide)
    simp only [sz, hz.2.2.1.1] at k1
    have h2 : ¬ nI S ≤ nI i := nI_ge (by omega) (by omega)
    obtain ⟨eu, hu2⟩ := hu i (by omega)
    have k2 := cl_get (s := s) (o := o) hY (l := 2) (n := S) (i := i) (by decide) hz.2.2.1.1 hz.2.2.1.2.1 (by omega)
    simp only [nu, lk, eu, nI_clamp (show u i < 2 ^ 31 by omega)] at k2
    have hWi := hWW i (Nat.le_refl _) (by omega)
    have skip : ∀ (hn : ¬ W (u i)), cnt W u hW (i + 1) = cnt W u hW i := fun hn => by rw [cnt, if_neg hn]; rfl
    by_cases c1 : s 26 (u i) = 0
    · by_cases c2 : s 23 (u i) ≤ nI H
      · -- it is sent
        have hWu : W (u i) := hWi.mpr ⟨c1, c2⟩
        obtain ⟨m1, m2⟩ := hq i (by omega) hWu
        have c2' : ¬ nI H < s 23 (u i) := Int32.not_lt.mpr c2
        have e1 : cnt W u hW (i + 1) = cnt W u hW i + 1 := by rw [cnt, if_pos hWu]
        have e2 : M - cnt W u hW i = (M - cnt W u hW (i + 1)) + 1 := by omega
        obtain ⟨z1, o1, r1, r2⟩ := cd_goes (g := g) (A := A) (s := s) (x := u i) (H := H) (L := L) (B := B) hz hP hv.1 hc hu2 hH hkk hA (by omega) (hw (u i) hu2) ht ((hv.2.1 (u i) hu2).2.1 c1).2.2
        obtain ⟨_, ⟨A', d2, d3, d4⟩, d5⟩ := sends_ok (x := u i) (H := H) hP60 hv.1 hA (hw (u i) hu2)
        obtain ⟨L1, l1, l2, l3⟩ := sends_inv (x := u i) hP60 hH hu2 hv hA (hw (u i) hu2)
        have m3 := r1.2.1.2.2.2.2 3
        have step := fun n => ih (i + 1) A' L1 z1 o1 (f_sends s (u i) H).2 n (some (.ref (A 34 (u i)))) (by omega) r1.1 l2 (by omega) (fun p hp => by rw [d5 _ _ (by omega)]; exact hkk p hp) (fun x hx => by rw [d5 _ _ (by omega)]; exact hw x hx) (fun d hd => by rw [d5 _ _ (by omega), d5 _ _ (by omega)]; exact ht d hd) (by rw [d5 _ _ (by omega)]; exact hP) d2 (by omega) (fun j hj => by rw [r1.2.2 _ _ (by decide) (by decide) (by decide)]; exact hu j hj) (fun a ha => by rw [d5 _ _ (by omega)]; exact h50 a ha) (fun j h1 h2 => by
          rw [d5 23 _ (by omega), l3 26 _ (by decide) (by decide) (fun q => by have := hui _ _ h2 (by omega) q; omega)]
          exact hWW j (by omega) h2)
        rw [e2, sdS, h50 _ m1, m2, nI_clamp (show u i < 2 ^ 31 by omega), ← e1]
        rcases fs_01 s (u i) H with a | a
        · obtain ⟨z2, o2, L2, t1, t2, t3, t4⟩ := step n
          rw [a, if_pos rfl, Int32.add_zero]
          refine ⟨z2, o2, L2, ze_trans r1 t1, by omega, t3, ?_⟩
          rw [a] at r2
          rw [e_X9_sendShips_19 rfl]
          simp only [e_X9_sendShips_20, e_X9_sendShips_21, e_X9_sendShips_27, e_X9_sendShips_30, e_X9_sendShips_31, e_X9_sendShips_34, e_X9_sendShips_38n, e_X9_sendShips_38, e_X9_sendShips_41, e_X9_sendShips_43, e_X9_sendShips_45, e_X9_sendShips_48, e_X9_sendShips_51, e_X9_sendShips_54, e_X9_sendShips_56, e_X9_sendShips_59, e_X9_sendShips_60, e_X9_sendShips_63, e_X9_sendShips_64, e_X9_sendShips_66, e_X9_sendShips_70, e_X9_sendShips_73, e_X9_sendShips_76, e_X9_sendShips_79, e_X9_sendShips_82, e_X9_sendShips_83, cO_0 hY, cg_0_4 hY, cg_0_10 hY, hb_0 hY, cw_0_12 hY, cg_0_2 hY, cO_34 hY, cg_34_7 hY, cO_35 hY, cg_35_0 hY, cO_36 hY, cg_36_0 hY, cg_34_4 hY, rP_n, rS_n, xrd_rP, xrd_rS, xfit_rP, xfit_rS, xcat_rP, xcat_rS, nem, su_get, z1e0, z2e0, z3e0, z4e0, z5e0, z0e1, zme0, Nat.reduceEqDiff, not_true_eq_false, and_self, false_or, or_false, or_self,  bI_eq0, bI_eq1, i10, i20, i30, i00, ne_eq, Decidable.not_not, true_and, and_true, false_and, and_false, xrd_ref, xrd_null, xrd_rf, xid_int, xcat_int, xcat_ref, xcat_null, xcat_long, xcat_rf, xfit_int, xfit_0, xfit_1, xfit_ref, xfit_null, xfit_rf, not_false_eq_true, ↓reduceIte, z01_0, z01_1, bI_01, true_or, or_true, c_X9_sendShips_24 (cO_3 hY) k1, c_X9_sendShips_35 (cO_3 hY) k2, c_X9_sendShips_67 _ (cO_0 hY) r2, h2, hu2, c1, c2', nI_1]
          exact t4
        · obtain ⟨z2, o2, L2, t1, t2, t3, t4⟩ := step (n + 1)
          rw [a, if_neg (by decide)]
          refine ⟨z2, o2, L2, ze_trans r1 t1, by omega, t3, ?_⟩
          rw [a] at r2
          rw [e_X9_sendShips_19 rfl]
          simp only [e_X9_sendShips_20, e_X9_sendShips_21, e_X9_sendShips_27, e_X9_sendShips_30, e_X9_sendShips_31, e_X9_sendShips_34, e_X9_sendShips_38n, e_X9_sendShips_38, e_X9_sendShips_41, e_X9_sendShips_43, e_X9_sendShips_45, e_X9_sendShips_48, e_X9_sendShips_51, e_X9_sendShips_54, e_X9_sendShips_56, e_X9_sendShips_59, e_X9_sendShips_60, e_X9_sendShips_63, e_X9_sendShips_64, e_X9_sendShips_66, e_X9_sendShips_70, e_X9_sendShips_73, e_X9_sendShips_76, e_X9_sendShips_79, e_X9_sendShips_82, e_X9_sendShips_83, cO_0 hY, cg_0_4 hY, cg_0_10 hY, hb_0 hY, cw_0_12 hY, cg_0_2 hY, cO_34 hY, cg_34_7 hY, cO_35 hY, cg_35_0 hY, cO_36 hY, cg_36_0 hY, cg_34_4 hY, rP_n, rS_n, xrd_rP, xrd_rS, xfit_rP, xfit_rS, xcat_rP, xcat_rS, nem, su_get, z1e0, z2e0, z3e0, z4e0, z5e0, z0e1, zme0, Nat.reduceEqDiff, not_true_eq_false, and_self, false_or, or_false, or_self,  bI_eq0, bI_eq1, i10, i20, i30, i00, ne_eq, Decidable.not_not, true_and, and_true, false_and, and_false, xrd_ref, xrd_null, xrd_rf, xid_int, xcat_int, xcat_ref, xcat_null, xcat_long, xcat_rf, xfit_int, xfit_0, xfit_1, xfit_ref, xfit_null, xfit_rf, not_false_eq_true, ↓reduceIte, z01_0, z01_1, bI_01, true_or, or_true, c_X9_sendShips_24 (cO_3 hY) k1, c_X9_sendShips_35 (cO_3 hY) k2, c_X9_sendShips_67 _ (cO_0 hY) r2, h2, hu2, c1, c2', nI_1]
          exact t4
      · have hn : ¬ W (u i) := fun q => c2 (hWi.mp q).2
        have c2' : nI H < s 23 (u i) := Int32.not_le.mp c2
        obtain ⟨z2, o2, L2, t1, t2, t3, t4⟩ := ih (i + 1) B L z o s n (some (.ref (A 34 (u i)))) (by omega) hz hv hc hkk hw ht hP hA (by omega) hu h50 (fun j h1 h2 => hWW j (by omega) h2)
        rw [skip hn] at t3 t4
        refine ⟨z2, o2, L2, t1, t2, t3, ?_⟩
        rw [e_X9_sendShips_19 rfl]
        simp only [e_X9_sendShips_20, e_X9_sendShips_21, e_X9_sendShips_27, e_X9_sendShips_30, e_X9_sendShips_31, e_X9_sendShips_34, e_X9_sendShips_38n, e_X9_sendShips_38, e_X9_sendShips_41, e_X9_sendShips_43, e_X9_sendShips_45, e_X9_sendShips_48, e_X9_sendShips_51, e_X9_sendShips_54, e_X9_sendShips_56, e_X9_sendShips_59, e_X9_sendShips_60, e_X9_sendShips_63, e_X9_sendShips_64, e_X9_sendShips_66, e_X9_sendShips_70, e_X9_sendShips_73, e_X9_sendShips_76, e_X9_sendShips_79, e_X9_sendShips_82, e_X9_sendShips_83, cO_0 hY, cg_0_4 hY, cg_0_10 hY, hb_0 hY, cw_0_12 hY, cg_0_2 hY, cO_34 hY, cg_34_7 hY, cO_35 hY, cg_35_0 hY, cO_36 hY, cg_36_0 hY, cg_34_4 hY, rP_n, rS_n, xrd_rP, xrd_rS, xfit_rP, xfit_rS, xcat_rP, xcat_rS, nem, su_get, z1e0, z2e0, z3e0, z4e0, z5e0, z0e1, zme0, Nat.reduceEqDiff, not_true_eq_false, and_self, false_or, or_false, or_self,  bI_eq0, bI_eq1, i10, i20, i30, i00, ne_eq, Decidable.not_not, true_and, and_true, false_and, and_false, xrd_ref, xrd_null, xrd_rf, xid_int, xcat_int, xcat_ref, xcat_null, xcat_long, xcat_rf, xfit_int, xfit_0, xfit_1, xfit_ref, xfit_null, xfit_rf, not_false_eq_true, ↓reduceIte, z01_0, z01_1, bI_01, true_or, or_true, c_X9_sendShips_24 (cO_3 hY) k1, c_X9_sendShips_35 (cO_3 hY) k2, h2, hu2, c1, c2', nI_1]
        exact t4
    · have hn : ¬ W (u i) := fun q => c1 (hWi.mp q).1
      obtain ⟨z2, o2, L2, t1, t2, t3, t4⟩ := ih (i + 1) B L z o s n (some (.ref (A 34 (u i)))) (by omega) hz hv hc hkk hw ht hP hA (by omega) hu h50 (fun j h1 h2 => hWW j (by omega) h2)
      rw [skip hn] at t3 t4
      refine ⟨z2, o2, L2, t1, t2, t3, ?_⟩
      rw [e_X9_sendShips_19 rfl]
      simp only [e_X9_sendShips_20, e_X9_sendShips_21, e_X9_sendShips_27, e_X9_sendShips_30, e_X9_sendShips_31, e_X9_sendShips_34, e_X9_sendShips_38n, e_X9_sendShips_38, e_X9_sendShips_41, e_X9_sendShips_43, e_X9_sendShips_45, e_X9_sendShips_48, e_X9_sendShips_51, e_X9_sendShips_54, e_X9_sendShips_56, e_X9_sendShips_59, e_X9_sendShips_60, e_X9_sendShips_63, e_X9_sendShips_64, e_X9_sendShips_66, e_X9_sendShips_70, e_X9_sendShips_73, e_X9_sendShips_76, e_X9_sendShips_79, e_X9_sendShips_82, e_X9_sendShips_83, cO_0 hY, cg_0_4 hY, cg_0_10 hY, hb_0 hY, cw_0_12 hY, cg_0_2 hY, cO_34 hY, cg_34_7 hY, cO_35 hY, cg_35_0 hY, cO_36 hY, cg_36_0 hY, cg_34_4 hY, rP_n, rS_n, xrd_rP, xrd_rS, xfit_rP, xfit_rS, xcat_rP, xcat_rS, nem, su_get, z1e0, z2e0, z3e0, z4e0, z5e0, z0e1, zme0, Nat.reduceEqDiff, not_true_eq_false, and_self, false_or, or_false, or_self,  bI_eq0, bI_eq1, i10, i20, i30, i00, ne_eq, Decidable.not_not, true_and, and_true, false_and, and_false, xrd_ref, xrd_null, xrd_rf, xid_int, xcat_int, xcat_ref, xcat_null, xcat_long, xcat_rf, xfit_int, xfit_0, xfit_1, xfit_ref, xfit_null, xfit_rf, not_false_eq_true, ↓reduceIte, z01_0, z01_1, bI_01, true_or, or_true, c_X9_sendShips_24 (cO_3 hY) k1, c_X9_sendShips_35 (cO_3 hY) k2, h2, hu2, c1, nI_1]
      exact t4
/-- the ships by length, as the class keeps them -/
def sbOK (s o : mS) (S : Nat) : Prop := (∀ j, j < S → ∃ y, y < S ∧ o 93 j = nI y) ∧ ∀ i j, i < j → j < S → pr (ln s) (o 93 i).toNatClampNeg (o 93 j).toNatClampNeg
theorem sb_u {s o : mS} (hS : S ≤ 400) (h : sbOK s o S) : (∀ j, j < S → o 93 j = nI (o 93 j).toNatClampNeg ∧ (o 93 j).toNatClampNeg < S) ∧ (∀ i j, i < S → j < S → (o 93 i).toNatClampNeg = (o 93 j).toNatClampNeg → i = j) ∧ (∀ y, y < S → ∃ i, i < S ∧ (o 93 i).toNatClampNeg = y) := by
  have a : ∀ j, j < S → o 93 j = nI (o 93 j).toNatClampNeg ∧ (o 93 j).toNatClampNeg < S := by
    intro j hj
    obtain ⟨y, y1, y2⟩ := h.1 j hj
    rw [y2, nI_clamp (by omega)]
    exact ⟨rfl, y1⟩
  have b : ∀ i j, i < S → j < S → (o 93 i).toNatClampNeg = (o 93 j).toNatClampNeg → i = j := by
    intro i j hi hj e
    by_cases x : i < j
    · have := h.2 i j x hj
      rw [e] at this
      omega
    · by_cases y : j < i
      · have := h.2 j i y hi
        rw [e] at this
        omega
      · omega
  refine ⟨a, b, fun y hy => ?_⟩
  apply Classical.byContradiction
  intro hne
  have ne : ∀ i, i < S → (o 93 i).toNatClampNeg ≠ y := fun i hi e => hne ⟨i, hi, e⟩
  -- skip y: S places below S - 1
  have := pig (S - 1) S (fun i => if (o 93 i).toNatClampNeg < y then (o 93 i).toNatClampNeg else (o 93 i).toNatClampNeg - 1) (fun k hk => by
    have h1 := (a k hk).2
    have h2 := ne k hk
    split <;> omega) (fun j k hj hk e => by
    have h1 := ne j hj
    have h2 := ne k hk
    refine b j k hj hk ?_
    split at e <;> split at e <;> omega)
  omega
theorem cd_sendShips {H L B T : Nat} {z : zT} {s o : mS} {a2 a3 a4 : Option Value} (hH : H < 9600) (hT : s 1 0 = nI T) (hT2 : T < 9600) (hz : zo g A z o P S) (hsb : sbOK s o S) (hv : siv s P S L H) (hc : L ≤ z.1.2.2 3) (hkk : kOK s P) (hw : wOK s P S) (ht : tOK s) (hP : s 2 0 = nI P) (hA : s 47 0 = nI B) (hB : B < 1000) {Bn : Nat} (hse : o 62 (T % 24) = soS s (s 1 0) Bn 0 0) : ∃ z' o' L', ze g A P S z o z' o' ∧ L' ≤ L ∧ siv (hrQ S H (hrB Bn s)).2 P S L' H ∧ Ev g 86 0 [some (.ref (A 0 0)), some (.int (nI H)), a2, a3, a4] [] (cp A z s o) (.inl (some (.int (hrQ S H (hrB Bn s)).1)), cp A z' (hrQ S H (hrB Bn s)).2 o') := by
  have hY := hz.1
  have hS := hY.2.2.2.2.2.1.2
  have hP60 := hY.2.2.2.2.2.1.1
  obtain ⟨u1, u2, u3⟩ := sb_u hS hsb
  unfold hrQ
  have o49 : ∀ F j, F ≠ 49 → hrB Bn s F j = s F j := fun F j h => su_other _ _ h
  generalize hs1 : hrB Bn s = s1 at o49 ⊢
  obtain ⟨q1, q2, q3⟩ := quS_ok (nI H) S S 0 0 s1 (by omega) (by omega) (fun j hj => by omega)
  obtain ⟨p1, p2⟩ := qu_ord (nI H) hS S 0 0 s1 (by omega) (by omega) (fun j hj => by omega) (fun i j _ hj => by omega) (fun y => ⟨fun ⟨a, ha, _⟩ => by omega, fun h => by omega⟩)
  have lnE : ln s1 = ln s := funext fun y => by simp only [ln]; rw [o49 _ _ (by decide)]
  generalize quS (nI H) S 0 0 s1 = r at q1 q2 q3 p1 p2 ⊢
  obtain ⟨M, s2⟩ := r
  simp only at q1 q2 q3 p1 p2 ⊢
  rw [lnE] at p1
  have W2 : ∀ a, a < M → s2 50 a = nI (s2 50 a).toNatClampNeg ∧ (s2 50 a).toNatClampNeg < S := by
    intro a ha
    obtain ⟨y, y1, y2⟩ := q2 a ha
    rw [y2, nI_clamp (by omega)]
    exact ⟨rfl, y1⟩
  have o2 : ∀ F j, F ≠ 49 → F ≠ 50 → s2 F j = s F j := fun F j h1 h2 => (q3 F j h2).trans (o49 F j h1)
  obtain ⟨g1, g2⟩ := order_eq (W := fun y => s1 26 y = 0 ∧ s1 23 y ≤ nI H) (hW := fun y => inferInstance) (u := fun j => (o 93 j).toNatClampNeg) (w := fun a => (s2 50 a).toNatClampNeg) (len := ln s) (S := S) (M := M) hsb.2 u3 (fun i hi => (u1 i hi).2) p1 p2
  have v2 : siv s2 P S L H := siv_o hv (lOK_o hv.1 (fun j => o2 _ _ (by decide) (by decide)) (o2 _ _ (by decide) (by decide))) (fun w hw => inL_o hw (fun j => (o2 _ _ (by decide) (by decide)).symm)) (fun j => o2 _ _ (by decide) (by decide)) (fun j => o2 _ _ (by decide) (by decide)) (fun j => o2 _ _ (by decide) (by decide)) (fun F j h1 h2 => o2 _ _ (by omega) (by omega))
  obtain ⟨z', o', L', r1, r2, r3, r4⟩ := lp_csend (g := g) (A := A) (P := P) (S := S) (H := H) (M := M) hH hS g1 g2 u2 (fun a ha => (W2 a ha).2) S 0 B L z o s2 0 a4 (by omega) hz v2 hc (fun p hp => by rw [o2 _ _ (by decide) (by decide)]; exact hkk p hp) (fun x hx => by rw [o2 _ _ (by decide) (by decide)]; exact hw x hx) (fun d hd => by rw [o2 _ _ (by decide) (by decide), o2 _ _ (by decide) (by decide)]; exact ht d hd) (by rw [o2 _ _ (by decide) (by decide)]; exact hP) (by rw [o2 _ _ (by decide) (by decide)]; exact hA) (by omega) (fun j hj => u1 j hj) (fun a ha => (W2 a ha).1) (fun j _ hj => by rw [o2 _ _ (by decide) (by decide), o2 _ _ (by decide) (by decide), o49 _ _ (by decide), o49 _ _ (by decide)])
  rw [cnt, Nat.sub_zero] at r3 r4
  refine ⟨z', o', L', r1, r2, r3, ?_⟩
  have k0 := cd_seatsOut (g := g) (s := s) (o := o) (a2 := none) hY hT2
  have e : cp A z s1 o = cp A z s2 o := by
    refine (cp_congr (fun F j e => q3 F j ?_) (fun _ _ _ => rfl) hY).symm
    rintro rfl
    exact e rfl
  have e2 : cp A z (su s 49 0 (o 62 (T % 24))) o = cp A z s2 o := by
    rw [← e, ← hs1, hse]
    rfl
  rw [nI_0] at r4
  simp only [e_X9_sendShips_0, e_X9_sendShips_1, e_X9_sendShips_2, e_X9_sendShips_3, e_X9_sendShips_4, e_X9_sendShips_7, e_X9_sendShips_8, e_X9_sendShips_14, e_X9_sendShips_17, e_X9_sendShips_18, cO_0 hY, cg_0_4 hY, cg_0_10 hY, hb_0 hY, cw_0_12 hY, cg_0_2 hY, cO_34 hY, cg_34_7 hY, cO_35 hY, cg_35_0 hY, cO_36 hY, cg_36_0 hY, cg_34_4 hY, rP_n, rS_n, xrd_rP, xrd_rS, xfit_rP, xfit_rS, xcat_rP, xcat_rS, nem, su_get, z1e0, z2e0, z3e0, z4e0, z5e0, z0e1, zme0, Nat.reduceEqDiff, not_true_eq_false, and_self, false_or, or_false, or_self,  bI_eq0, bI_eq1, i10, i20, i30, i00, ne_eq, Decidable.not_not, true_and, and_true, false_and, and_false, xrd_ref, xrd_null, xrd_rf, xid_int, xcat_int, xcat_ref, xcat_null, xcat_long, xcat_rf, xfit_int, xfit_0, xfit_1, xfit_ref, xfit_null, xfit_rf, not_false_eq_true, ↓reduceIte, z01_0, z01_1, bI_01, true_or, or_true, hT, c_X9_sendShips_11 _ (cO_16 hY) k0, e2]
  exact r4
end CW
