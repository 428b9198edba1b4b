/-! ===== the class: one ship is sent ===== -/
section CH
variable {g : Nat × Nat × Nat} {A : Nat → Nat → Nat} {z : zT} {s o s' o' : mS} {P S : Nat}
theorem frS_m1 (s : mS) (x : Nat) : frS s x (-1) = s 49 0 := by
  simp [frS]
/-- from the choice on -/
theorem ev_csnC {x H L : Nat} {first other : Int32} (hz : zo g A z o P S) (hx : x < S) (hH : H < 9600) (hl : lOK s P L) (hc : L ≤ z.1.2.2 3) (h30 : s 30 x = -1) (hf : first = -1 ∨ inL s L first) (ho : other = -1 ∨ (other ≠ first ∧ inL s L other)) : ∃ o', (∀ F j, F ≠ 63 → o' F j = o F j) ∧ Ev g 87 84 [some (.ref (A 0 0)), some (.ref (A 34 x)), some (.int (nI H)), some (rP A first), some (rP A other)] [] (cp A z s o) (.inl (some (.int (snC x H first (other, s)).1)), cp A z (snC x H first (other, s)).2 o') := by
  have hY := hz.1
  have h6 := hY.2.2.2.2.2.1.1
  have k0 := cd_keepWaiting (g := g) (s := s) (o := o) hY hx
  unfold snC
  by_cases a : first = -1
  · subst a
    refine ⟨o, fun _ _ _ => rfl, ?_⟩
    simp only [e_X9_goes_84, e_X9_goes_85n, e_X9_goes_85, e_X9_goes_88, e_X9_goes_89, e_X9_goes_92, e_X9_goes_94, e_X9_goes_97, e_X9_goes_99n, e_X9_goes_99, e_X9_goes_102, e_X9_goes_103, e_X9_goes_107, e_X9_goes_108, e_X9_goes_109, e_X9_goes_110, e_X9_goes_111, e_X9_goes_112, e_X9_goes_114, e_X9_goes_118, e_X9_goes_119, cO_0 hY, cg_0_3 hY, cO_34 hY, cg_34_3 hY, cg_34_7 hY, cO_35 hY, cg_35_5 hY, cO_36 hY, cg_36_5 hY, hb_35 hY, cw_35_5 hY, hb_36 hY, cw_36_5 hY, hb_0 hY, cw_0_13 hY, cg_34_5 hY, rP_n, rS_n, xrd_rP, xrd_rS, xfit_rP, xfit_rS, xcat_rP, xcat_rS, nem, su_get, z1e0, z2e0, z3e0, z4e0, z5e0, z0e1, zme0, Nat.reduceEqDiff, not_true_eq_false, and_self, false_or, or_false, or_self,  bI_eq0, bI_eq1, i10, i20, i30, i00, ne_eq, Decidable.not_not, true_and, and_true, false_and, and_false, xrd_ref, xrd_null, xrd_rf, xid_int, xcat_int, xcat_ref, xcat_null, xcat_long, xcat_rf, xfit_int, xfit_0, xfit_1, xfit_ref, xfit_null, xfit_rf, not_false_eq_true, ↓reduceIte, z01_0, z01_1, bI_01, true_or, or_true, c_X9_goes_104 _ (cO_0 hY) k0]
  · have hf := hf.resolve_left a
    obtain ⟨p, hp, rfl⟩ := inL_p hl hf
    have rp := rP_r (A := A) (show p < 2 ^ 31 by omega)
    by_cases b : s 24 x = -2
    · by_cases c : other = -1
      · subst c
        refine ⟨o, fun _ _ _ => rfl, ?_⟩
        simp only [e_X9_goes_84, e_X9_goes_85n, e_X9_goes_85, e_X9_goes_88, e_X9_goes_89, e_X9_goes_92, e_X9_goes_94, e_X9_goes_97, e_X9_goes_99n, e_X9_goes_99, e_X9_goes_102, e_X9_goes_103, e_X9_goes_107, e_X9_goes_108, e_X9_goes_109, e_X9_goes_110, e_X9_goes_111, e_X9_goes_112, e_X9_goes_114, e_X9_goes_118, e_X9_goes_119, cO_0 hY, cg_0_3 hY, cO_34 hY, cg_34_3 hY, cg_34_7 hY, cO_35 hY, cg_35_5 hY, cO_36 hY, cg_36_5 hY, hb_35 hY, cw_35_5 hY, hb_36 hY, cw_36_5 hY, hb_0 hY, cw_0_13 hY, cg_34_5 hY, rP_n, rS_n, xrd_rP, xrd_rS, xfit_rP, xfit_rS, xcat_rP, xcat_rS, nem, su_get, z1e0, z2e0, z3e0, z4e0, z5e0, z0e1, zme0, Nat.reduceEqDiff, not_true_eq_false, and_self, false_or, or_false, or_self,  bI_eq0, bI_eq1, i10, i20, i30, i00, ne_eq, Decidable.not_not, true_and, and_true, false_and, and_false, xrd_ref, xrd_null, xrd_rf, xid_int, xcat_int, xcat_ref, xcat_null, xcat_long, xcat_rf, xfit_int, xfit_0, xfit_1, xfit_ref, xfit_null, xfit_rf, not_false_eq_true, ↓reduceIte, z01_0, z01_1, bI_01, true_or, or_true, c_X9_goes_104 _ (cO_0 hY) k0, a, b, rp, hx]
      · obtain ⟨q, hq, rfl⟩ := inL_p hl (ho.resolve_left c).2
        have rq := rP_r (A := A) (show q < 2 ^ 31 by omega)
        obtain ⟨o1, r1, r2⟩ := cd_depart (g := g) (A := A) (first := nI p) (other := nI q) hz hx hH hl hc h30 hf ho
        refine ⟨o1, r1, ?_⟩
        simp only [rp, rq] at r2 ⊢
        simp only [e_X9_goes_84, e_X9_goes_85n, e_X9_goes_85, e_X9_goes_88, e_X9_goes_89, e_X9_goes_92, e_X9_goes_94, e_X9_goes_97, e_X9_goes_99n, e_X9_goes_99, e_X9_goes_102, e_X9_goes_103, e_X9_goes_107, e_X9_goes_108, e_X9_goes_109, e_X9_goes_110, e_X9_goes_111, e_X9_goes_112, e_X9_goes_114, e_X9_goes_118, e_X9_goes_119, cO_0 hY, cg_0_3 hY, cO_34 hY, cg_34_3 hY, cg_34_7 hY, cO_35 hY, cg_35_5 hY, cO_36 hY, cg_36_5 hY, hb_35 hY, cw_35_5 hY, hb_36 hY, cw_36_5 hY, hb_0 hY, cw_0_13 hY, cg_34_5 hY, rP_n, rS_n, xrd_rP, xrd_rS, xfit_rP, xfit_rS, xcat_rP, xcat_rS, nem, su_get, z1e0, z2e0, z3e0, z4e0, z5e0, z0e1, zme0, Nat.reduceEqDiff, not_true_eq_false, and_self, false_or, or_false, or_self,  bI_eq0, bI_eq1, i10, i20, i30, i00, ne_eq, Decidable.not_not, true_and, and_true, false_and, and_false, xrd_ref, xrd_null, xrd_rf, xid_int, xcat_int, xcat_ref, xcat_null, xcat_long, xcat_rf, xfit_int, xfit_0, xfit_1, xfit_ref, xfit_null, xfit_rf, not_false_eq_true, ↓reduceIte, z01_0, z01_1, bI_01, true_or, or_true, c_X9_goes_115 _ _ _ (cO_0 hY) r2, a, b, c, hx]
    · obtain ⟨o1, r1, r2⟩ := cd_depart (g := g) (A := A) (first := nI p) (other := other) hz hx hH hl hc h30 hf ho
      refine ⟨o1, r1, ?_⟩
      simp only [rp] at r2 ⊢
      simp only [e_X9_goes_84, e_X9_goes_85n, e_X9_goes_85, e_X9_goes_88, e_X9_goes_89, e_X9_goes_92, e_X9_goes_94, e_X9_goes_97, e_X9_goes_99n, e_X9_goes_99, e_X9_goes_102, e_X9_goes_103, e_X9_goes_107, e_X9_goes_108, e_X9_goes_109, e_X9_goes_110, e_X9_goes_111, e_X9_goes_112, e_X9_goes_114, e_X9_goes_118, e_X9_goes_119, cO_0 hY, cg_0_3 hY, cO_34 hY, cg_34_3 hY, cg_34_7 hY, cO_35 hY, cg_35_5 hY, cO_36 hY, cg_36_5 hY, hb_35 hY, cw_35_5 hY, hb_36 hY, cw_36_5 hY, hb_0 hY, cw_0_13 hY, cg_34_5 hY, rP_n, rS_n, xrd_rP, xrd_rS, xfit_rP, xfit_rS, xcat_rP, xcat_rS, nem, su_get, z1e0, z2e0, z3e0, z4e0, z5e0, z0e1, zme0, Nat.reduceEqDiff, not_true_eq_false, and_self, false_or, or_false, or_self,  bI_eq0, bI_eq1, i10, i20, i30, i00, ne_eq, Decidable.not_not, true_and, and_true, false_and, and_false, xrd_ref, xrd_null, xrd_rf, xid_int, xcat_int, xcat_ref, xcat_null, xcat_long, xcat_rf, xfit_int, xfit_0, xfit_1, xfit_ref, xfit_null, xfit_rf, not_false_eq_true, ↓reduceIte, z01_0, z01_1, bI_01, true_or, or_true, c_X9_goes_115 _ _ _ (cO_0 hY) r2, a, b, hx]
theorem cd_goes {x H L B : Nat} (hz : zo g A z o P S) (hP : s 2 0 = nI P) (hl : lOK s P L) (hc : L ≤ z.1.2.2 3) (hx : x < S) (hH : H < 9600) (hkk : kOK s P) (hA : s 47 0 = nI B) (hB : B + 120 < 2 ^ 31) (hw : ¬ s 24 x < 0 → ∃ q, q < P ∧ s 24 x = nI q) (ht : tOK s) (h30 : s 30 x = -1) : ∃ z' o', ze g A P S z o z' o' ∧ Ev g 87 0 [some (.ref (A 0 0)), some (.ref (A 34 x)), some (.int (nI H)), none, none] [] (cp A z s o) (.inl (some (.int (f_sends s x H).1)), cp A z' (f_sends s x H).2 o') := by
  have hY := hz.1
  have h6 := hY.2.2.2.2.2.1.1
  have k0 := cd_let (g := g) (s := s) (o := o) (x := x) hY hH ht
  unfold f_sends
  by_cases a : r_win s x H = 0
  · refine ⟨z, o, ze_refl hz, ?_⟩
    simp only [e_X9_goes_0, e_X9_goes_1, e_X9_goes_4, e_X9_goes_5, e_X9_goes_8, e_X9_goes_12, e_X9_goes_15, e_X9_goes_16, e_X9_goes_19, e_X9_goes_20, e_X9_goes_23, e_X9_goes_24, e_X9_goes_25, e_X9_goes_28, e_X9_goes_29, e_X9_goes_30, cO_0 hY, cg_0_3 hY, cO_34 hY, cg_34_3 hY, cg_34_7 hY, cO_35 hY, cg_35_5 hY, cO_36 hY, cg_36_5 hY, hb_35 hY, cw_35_5 hY, hb_36 hY, cw_36_5 hY, hb_0 hY, cw_0_13 hY, cg_34_5 hY, rP_n, rS_n, xrd_rP, xrd_rS, xfit_rP, xfit_rS, xcat_rP, xcat_rS, nem, su_get, z1e0, z2e0, z3e0, z4e0, z5e0, z0e1, zme0, Nat.reduceEqDiff, not_true_eq_false, and_self, false_or, or_false, or_self,  bI_eq0, bI_eq1, i10, i20, i30, i00, ne_eq, Decidable.not_not, true_and, and_true, false_and, and_false, xrd_ref, xrd_null, xrd_rf, xid_int, xcat_int, xcat_ref, xcat_null, xcat_long, xcat_rf, xfit_int, xfit_0, xfit_1, xfit_ref, xfit_null, xfit_rf, not_false_eq_true, ↓reduceIte, z01_0, z01_1, bI_01, true_or, or_true, c_X9_goes_9 (cO_13 hY) k0, hx, a]
  · rw [if_neg a, nL_eq hl h6]
    have e48 : ∀ k j, k ≠ 48 → (su s 48 0 0) k j = s k j := fun k j q => su_other _ _ q
    have l1 : lOK (su s 48 0 0) P L := lOK_o hl (fun j => e48 _ _ (by decide)) (e48 _ _ (by decide))
    have hw1 : ¬ (su s 48 0 0) 24 x < 0 → ∃ q, q < P ∧ (su s 48 0 0) 24 x = nI q := by rw [e48 _ _ (by decide)]; exact hw
    have hA1 : (su s 48 0 0) 47 0 = nI B := by rw [e48 _ _ (by decide)]; exact hA
    have hk1 : kOK (su s 48 0 0) P := fun p hp => by rw [e48 _ _ (by decide)]; exact hkk p hp
    have hP1 : (su s 48 0 0) 2 0 = nI P := by rw [e48 _ _ (by decide)]; exact hP
    obtain ⟨q1, q2, ⟨A', c1, c2, c3⟩, q4, q5⟩ := seek_ok (x := x) (H := H) (lead := -1) h6 l1 hA1 hw1 (Or.inr rfl)
    have k1 : ∃ z1 o1, ze g A P S z o z1 o1 ∧ ∀ {out : xR}, Ev g 87 0 [some (.ref (A 0 0)), some (.ref (A 34 x)), some (.int (nI H)), none, none] [] (cp A z s o) out = Ev g 87 62 [some (.ref (A 0 0)), some (.ref (A 34 x)), some (.int (nI H)), some (rP A (f_seek (su s 48 0 0) x H (-1) L).1), some .null] [] (cp A z1 (f_seek (su s 48 0 0) x H (-1) L).2 o1) out := by
      by_cases b : s 24 x < 0
      · obtain ⟨z1, o1, r1, r2⟩ := cd_seek (g := g) (A := A) (s := su s 48 0 0) (x := x) (H := H) (L := L) (B := B) (lead := -1) (a5 := none) (a6 := none) hz l1 hc hx hH hk1 hA1 (by omega) (by rw [e48 _ _ (by decide)]; exact b) (Or.inl rfl)
        refine ⟨z1, o1, r1, fun {out} => ?_⟩
        simp only [rP_n] at r2
        simp only [e_X9_goes_0, e_X9_goes_1, e_X9_goes_4, e_X9_goes_5, e_X9_goes_8, e_X9_goes_12, e_X9_goes_15, e_X9_goes_16, e_X9_goes_19, e_X9_goes_20, e_X9_goes_23, e_X9_goes_24, e_X9_goes_25, e_X9_goes_28, e_X9_goes_29, e_X9_goes_30, e_X9_goes_31, e_X9_goes_32, e_X9_goes_35, e_X9_goes_36, e_X9_goes_39, e_X9_goes_42, e_X9_goes_43, e_X9_goes_44, e_X9_goes_48, e_X9_goes_51, e_X9_goes_52, e_X9_goes_53, e_X9_goes_54, e_X9_goes_58, e_X9_goes_59, e_X9_goes_60, cO_0 hY, cg_0_3 hY, cO_34 hY, cg_34_3 hY, cg_34_7 hY, cO_35 hY, cg_35_5 hY, cO_36 hY, cg_36_5 hY, hb_35 hY, cw_35_5 hY, hb_36 hY, cw_36_5 hY, hb_0 hY, cw_0_13 hY, cg_34_5 hY, rP_n, rS_n, xrd_rP, xrd_rS, xfit_rP, xfit_rS, xcat_rP, xcat_rS, nem, su_get, z1e0, z2e0, z3e0, z4e0, z5e0, z0e1, zme0, Nat.reduceEqDiff, not_true_eq_false, and_self, false_or, or_false, or_self,  bI_eq0, bI_eq1, i10, i20, i30, i00, ne_eq, Decidable.not_not, true_and, and_true, false_and, and_false, xrd_ref, xrd_null, xrd_rf, xid_int, xcat_int, xcat_ref, xcat_null, xcat_long, xcat_rf, xfit_int, xfit_0, xfit_1, xfit_ref, xfit_null, xfit_rf, not_false_eq_true, ↓reduceIte, z01_0, z01_1, bI_01, true_or, or_true, c_X9_goes_9 (cO_13 hY) k0, c_X9_goes_55 _ _ (cO_0 hY) r2, hx, a, b]
      · obtain ⟨o1, r1, r2⟩ := cd_told (g := g) (A := A) (s := su s 48 0 0) (x := x) (H := H) (L := L) (B := B) (a3 := none) hz hP1 l1 hc hx hH hk1 hA1 (by omega) (by rw [e48 _ _ (by decide)]; exact b) (hw1 (by rw [e48 _ _ (by decide)]; exact b))
        refine ⟨z, o1, r1, fun {out} => ?_⟩
        have fe : f_seek (su s 48 0 0) x H (-1) L = skA (su s 48 0 0) x H (su s 48 0 0 49 0) L := by
          unfold f_seek
          rw [if_neg (by rw [e48 _ _ (by decide)]; exact b), frS_m1]
        rw [← fe] at r2
        simp only [e_X9_goes_0, e_X9_goes_1, e_X9_goes_4, e_X9_goes_5, e_X9_goes_8, e_X9_goes_12, e_X9_goes_15, e_X9_goes_16, e_X9_goes_19, e_X9_goes_20, e_X9_goes_23, e_X9_goes_24, e_X9_goes_25, e_X9_goes_28, e_X9_goes_29, e_X9_goes_30, e_X9_goes_31, e_X9_goes_32, e_X9_goes_35, e_X9_goes_36, e_X9_goes_39, e_X9_goes_42, e_X9_goes_43, e_X9_goes_44, e_X9_goes_48, e_X9_goes_51, e_X9_goes_52, e_X9_goes_53, e_X9_goes_54, e_X9_goes_58, e_X9_goes_59, e_X9_goes_60, cO_0 hY, cg_0_3 hY, cO_34 hY, cg_34_3 hY, cg_34_7 hY, cO_35 hY, cg_35_5 hY, cO_36 hY, cg_36_5 hY, hb_35 hY, cw_35_5 hY, hb_36 hY, cw_36_5 hY, hb_0 hY, cw_0_13 hY, cg_34_5 hY, rP_n, rS_n, xrd_rP, xrd_rS, xfit_rP, xfit_rS, xcat_rP, xcat_rS, nem, su_get, z1e0, z2e0, z3e0, z4e0, z5e0, z0e1, zme0, Nat.reduceEqDiff, not_true_eq_false, and_self, false_or, or_false, or_self,  bI_eq0, bI_eq1, i10, i20, i30, i00, ne_eq, Decidable.not_not, true_and, and_true, false_and, and_false, xrd_ref, xrd_null, xrd_rf, xid_int, xcat_int, xcat_ref, xcat_null, xcat_long, xcat_rf, xfit_int, xfit_0, xfit_1, xfit_ref, xfit_null, xfit_rf, not_false_eq_true, ↓reduceIte, z01_0, z01_1, bI_01, true_or, or_true, c_X9_goes_9 (cO_13 hY) k0, c_X9_goes_45 _ (cO_0 hY) r2, hx, a, b]
    obtain ⟨z1, o1, y1, y2⟩ := k1
    have hz1 := y1.1
    have hY1 := hz1.1
    have m3 := y1.2.1.2.2.2.2 3
    have e30 : (f_seek (su s 48 0 0) x H (-1) L).2 30 x = -1 := by rw [q2 _ _ (by omega) (by omega), e48 _ _ (by decide), h30]
    generalize f_seek (su s 48 0 0) x H (-1) L = r at q1 q2 c1 q4 q5 y2 e30 ⊢
    obtain ⟨first, s2⟩ := r
    simp only at q1 q2 c1 q4 q5 y2 e30 ⊢
    have hk2 : kOK s2 P := fun p hp => by rw [q2 _ _ (by omega) (by omega)]; exact hk1 p hp
    have hf : first = -1 ∨ inL s2 L first := q5.imp id (fun q => q.2)
    unfold snB
    by_cases b : first = -1
    · obtain ⟨o2, r1, r2⟩ := ev_csnC (g := g) (A := A) (first := first) (other := -1) hz1 hx hH q1 (Nat.le_trans hc m3) e30 hf (Or.inl rfl)
      refine ⟨z1, o2, ze_trans y1 (ze_63 hz1 r1), ?_⟩
      rw [y2]
      subst b
      simp only [rP_n] at r2
      simp only [e_X9_goes_62, e_X9_goes_63n, e_X9_goes_63, e_X9_goes_66, e_X9_goes_67, e_X9_goes_70, e_X9_goes_72, e_X9_goes_75, e_X9_goes_76, e_X9_goes_77, e_X9_goes_78, e_X9_goes_82, cO_0 hY, cg_0_3 hY, cO_34 hY, cg_34_3 hY, cg_34_7 hY, cO_35 hY, cg_35_5 hY, cO_36 hY, cg_36_5 hY, hb_35 hY, cw_35_5 hY, hb_36 hY, cw_36_5 hY, hb_0 hY, cw_0_13 hY, cg_34_5 hY, rP_n, rS_n, xrd_rP, xrd_rS, xfit_rP, xfit_rS, xcat_rP, xcat_rS, nem, su_get, z1e0, z2e0, z3e0, z4e0, z5e0, z0e1, zme0, Nat.reduceEqDiff, not_true_eq_false, and_self, false_or, or_false, or_self,  bI_eq0, bI_eq1, i10, i20, i30, i00, ne_eq, Decidable.not_not, true_and, and_true, false_and, and_false, xrd_ref, xrd_null, xrd_rf, xid_int, xcat_int, xcat_ref, xcat_null, xcat_long, xcat_rf, xfit_int, xfit_0, xfit_1, xfit_ref, xfit_null, xfit_rf, not_false_eq_true, ↓reduceIte, z01_0, z01_1, bI_01, true_or, or_true]
      exact r2
    · have hf2 := hf.resolve_left b
      obtain ⟨p, hp, rfl⟩ := inL_p q1 hf2
      have rp := rP_r (A := A) (show p < 2 ^ 31 by omega)
      by_cases c : s2 24 x = -2
      · have hneg : s2 24 x < 0 := by rw [c]; decide
        obtain ⟨z2, o2, r1, r2⟩ := cd_seek (g := g) (A := A) (s := s2) (x := x) (H := H) (L := L) (B := A') (lead := nI p) (a5 := none) (a6 := none) hz1 q1 (Nat.le_trans hc m3) hx hH hk2 c1 (by omega) hneg (Or.inr ⟨p, hp, rfl⟩)
        obtain ⟨t1, t2, _, t4, t5⟩ := seek_ok (x := x) (H := H) (lead := nI p) h6 q1 c1 (fun q => absurd hneg q) (Or.inl hneg)
        obtain ⟨o3, u1, u2⟩ := ev_csnC (g := g) (A := A) (first := nI p) (other := (f_seek s2 x H (nI p) L).1) r1.1 hx hH t1 (Nat.le_trans (Nat.le_trans hc m3) (r1.2.1.2.2.2.2 3)) (by rw [t2 _ _ (by omega) (by omega)]; exact e30) (Or.inr (t4 _ hf2)) t5
        refine ⟨z2, o3, ze_trans (ze_trans y1 r1) (ze_63 r1.1 u1), ?_⟩
        rw [y2]
        simp only [rp] at r2 u2 ⊢
        simp only [e_X9_goes_62, e_X9_goes_63n, e_X9_goes_63, e_X9_goes_66, e_X9_goes_67, e_X9_goes_70, e_X9_goes_72, e_X9_goes_75, e_X9_goes_76, e_X9_goes_77, e_X9_goes_78, e_X9_goes_82, cO_0 hY, cg_0_3 hY, cO_34 hY, cg_34_3 hY, cg_34_7 hY, cO_35 hY, cg_35_5 hY, cO_36 hY, cg_36_5 hY, hb_35 hY, cw_35_5 hY, hb_36 hY, cw_36_5 hY, hb_0 hY, cw_0_13 hY, cg_34_5 hY, rP_n, rS_n, xrd_rP, xrd_rS, xfit_rP, xfit_rS, xcat_rP, xcat_rS, nem, su_get, z1e0, z2e0, z3e0, z4e0, z5e0, z0e1, zme0, Nat.reduceEqDiff, not_true_eq_false, and_self, false_or, or_false, or_self,  bI_eq0, bI_eq1, i10, i20, i30, i00, ne_eq, Decidable.not_not, true_and, and_true, false_and, and_false, xrd_ref, xrd_null, xrd_rf, xid_int, xcat_int, xcat_ref, xcat_null, xcat_long, xcat_rf, xfit_int, xfit_0, xfit_1, xfit_ref, xfit_null, xfit_rf, not_false_eq_true, ↓reduceIte, z01_0, z01_1, bI_01, true_or, or_true, c_X9_goes_79 _ _ (cO_0 hY1) r2, cO_34 hY1, cg_34_5 hY1, hx, b, c, nL_eq q1 h6]
        exact u2
      · obtain ⟨o2, r1, r2⟩ := ev_csnC (g := g) (A := A) (first := nI p) (other := -1) hz1 hx hH q1 (Nat.le_trans hc m3) e30 hf (Or.inl rfl)
        refine ⟨z1, o2, ze_trans y1 (ze_63 hz1 r1), ?_⟩
        rw [y2]
        simp only [rP_n, rp] at r2 ⊢
        simp only [e_X9_goes_62, e_X9_goes_63n, e_X9_goes_63, e_X9_goes_66, e_X9_goes_67, e_X9_goes_70, e_X9_goes_72, e_X9_goes_75, e_X9_goes_76, e_X9_goes_77, e_X9_goes_78, e_X9_goes_82, cO_0 hY, cg_0_3 hY, cO_34 hY, cg_34_3 hY, cg_34_7 hY, cO_35 hY, cg_35_5 hY, cO_36 hY, cg_36_5 hY, hb_35 hY, cw_35_5 hY, hb_36 hY, cw_36_5 hY, hb_0 hY, cw_0_13 hY, cg_34_5 hY, rP_n, rS_n, xrd_rP, xrd_rS, xfit_rP, xfit_rS, xcat_rP, xcat_rS, nem, su_get, z1e0, z2e0, z3e0, z4e0, z5e0, z0e1, zme0, Nat.reduceEqDiff, not_true_eq_false, and_self, false_or, or_false, or_self,  bI_eq0, bI_eq1, i10, i20, i30, i00, ne_eq, Decidable.not_not, true_and, and_true, false_and, and_false, xrd_ref, xrd_null, xrd_rf, xid_int, xcat_int, xcat_ref, xcat_null, xcat_long, xcat_rf, xfit_int, xfit_0, xfit_1, xfit_ref, xfit_null, xfit_rf, not_false_eq_true, ↓reduceIte, z01_0, z01_1, bI_01, true_or, or_true, cO_34 hY1, cg_34_5 hY1, hx, b, c]
        exact r2
end CH
