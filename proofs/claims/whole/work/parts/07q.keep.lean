/-! ===== the class keeps its state ===== -/
def kd (s o o' : mS) (q : Nat) : Prop := (o' 70 q = s 8 q ∧ o' 71 q = o 64 q ∧ o' 72 q = o 65 q ∧ o' 73 q = s 10 q) ∧ (o' 74 q = s 15 q ∧ o' 75 q = s 11 q ∧ o' 76 q = s 12 q ∧ o' 77 q = o 66 q ∧ o' 78 q = s 13 q)
def kt (s o' : mS) (x : Nat) : Prop := (o' 80 x = s 26 x ∧ o' 81 x = s 27 x ∧ o' 82 x = s 28 x ∧ o' 83 x = s 29 x) ∧ (o' 84 x = s 30 x ∧ o' 85 x = s 31 x ∧ o' 86 x = s 32 x ∧ o' 87 x = s 33 x)
theorem kdO_o (s o : mS) (p : Nat) {F j : Nat} (h : F < 70 ∨ 78 < F ∨ j ≠ p) : kdO s o p F j = o F j := by
  unfold kdO
  have a : ∀ (o : mS) k v, 70 ≤ k → k ≤ 78 → su o k p v F j = o F j := fun o k v h1 h2 => by
    rw [su_get, if_neg]
    rintro ⟨e1, e2⟩
    rcases h with h | h | h
    · omega
    · omega
    · exact h e2
  rw [a _ _ _ (by decide) (by decide), a _ _ _ (by decide) (by decide), a _ _ _ (by decide) (by decide), a _ _ _ (by decide) (by decide), a _ _ _ (by decide) (by decide), a _ _ _ (by decide) (by decide), a _ _ _ (by decide) (by decide), a _ _ _ (by decide) (by decide), a _ _ _ (by decide) (by decide)]
theorem kdO_kd (s o : mS) (p : Nat) : kd s o (kdO s o p) p := by
  simp [kd, kdO, su_get]
theorem ktO_o (s o : mS) (x : Nat) {F j : Nat} (h : F < 80 ∨ 87 < F ∨ j ≠ x) : ktO s o x F j = o F j := by
  unfold ktO
  have a : ∀ (o : mS) k v, 80 ≤ k → k ≤ 87 → su o k x v F j = o F j := fun o k v h1 h2 => by
    rw [su_get, if_neg]
    rintro ⟨e1, e2⟩
    rcases h with h | h | h
    · omega
    · omega
    · exact h e2
  rw [a _ _ _ (by decide) (by decide), a _ _ _ (by decide) (by decide), a _ _ _ (by decide) (by decide), a _ _ _ (by decide) (by decide), a _ _ _ (by decide) (by decide), a _ _ _ (by decide) (by decide), a _ _ _ (by decide) (by decide), a _ _ _ (by decide) (by decide)]
theorem ktO_kt (s o : mS) (x : Nat) : kt s (ktO s o x) x := by
  simp [kt, ktO, su_get]
section CK
variable {g : Nat × Nat × Nat} {A : Nat → Nat → Nat} {z : zT} {s : mS} {P S : Nat}
theorem lp_keepD (hP : s 2 0 = nI P) : ∀ (f p : Nat) (o : mS), p + f = P → zo g A z o P S → ∃ o', (∀ F j, F < 70 ∨ 78 < F ∨ j < p → o' F j = o F j) ∧ (∀ q, p ≤ q → q < P → kd s o o' q) ∧ ∀ {out : xR}, Ev g 85 2 [some (.ref (A 0 0)), some (.int (nI p))] [] (cp A z s o) out = Ev g 85 52 [some (.ref (A 0 0)), some (.int 0)] [] (cp A z s o') out := by
  intro f
  induction f with
  | zero =>
    intro p o hp hz
    have hY := hz.1
    have hP60 := hY.2.2.2.2.2.1.1
    have k1 := ps_size (g := g) (A := A) (s := s) hz hP
    have h2 : nI P ≤ nI p := nI_le (by omega) (by omega)
    refine ⟨o, fun _ _ _ => rfl, fun q h1 h2 => by omega, fun {out} => ?_⟩
    rw [e_X9_keepState_2 rfl]
    simp only [e_X9_keepState_3, e_X9_keepState_4, e_X9_keepState_10, e_X9_keepState_13, e_X9_keepState_14, e_X9_keepState_17, e_X9_keepState_21n, e_X9_keepState_21, e_X9_keepState_24, e_X9_keepState_27, e_X9_keepState_28, e_X9_keepState_31, e_X9_keepState_35n, e_X9_keepState_35, e_X9_keepState_38, e_X9_keepState_44, e_X9_keepState_47, e_X9_keepState_50, e_X9_keepState_51, cO_0 hY, cg_0_0 hY, cO_30 hY, cg_30_5 hY, cg_30_4 hY, cg_0_1 hY, cO_34 hY, cg_34_8 hY, cg_34_7 hY, cg_0_7 hY, cg_0_6 hY, hb_0 hY, cw_0_14 hY, rP_n, rS_n, xrd_rP, xrd_rS, xfit_rP, xfit_rS, xcat_rP, xcat_rS, nem, su_get, z1e0, z2e0, z3e0, z4e0, z5e0, z0e1, zme0, Nat.reduceEqDiff, not_true_eq_false, and_self, false_or, or_false, or_self,  bI_eq0, bI_eq1, i10, i20, i30, i00, ne_eq, Decidable.not_not, true_and, and_true, false_and, and_false, xrd_ref, xrd_null, xrd_rf, xid_int, xcat_int, xcat_ref, xcat_null, xcat_long, xcat_rf, xfit_int, xfit_0, xfit_1, xfit_ref, xfit_null, xfit_rf, not_false_eq_true, ↓reduceIte, z01_0, z01_1, bI_01, true_or, or_true, c_X9_keepState_7 (cO_1 hY) k1, h2]
  | succ f ih =>
    intro p o hp hz
    have hY := hz.1
    have hP60 := hY.2.2.2.2.2.1.1
    have k1 := ps_size (g := g) (A := A) (s := s) hz hP
    have h2 : ¬ nI P ≤ nI p := nI_ge (by omega) (by omega)
    have hpP : p < P := by omega
    have k2 := ps_get (g := g) (A := A) (s := s) hz hP hpP
    have k3 := cd_keepDuty (g := g) (s := s) (o := o) hY hpP
    have ko : ∀ F j, F < 70 ∨ 78 < F ∨ j ≠ p → kdO s o p F j = o F j := fun F j h => kdO_o s o p h
    obtain ⟨o', r1, r2, r3⟩ := ih (p + 1) (kdO s o p) (by omega) (zo_o hz (ko _ _ (by omega)) (ko _ _ (by omega)) (ko _ _ (by omega)) (fun j => ko _ _ (by omega)) (fun j => ko _ _ (by omega)) (fun j => ko _ _ (by omega)))
    refine ⟨o', fun F j h => ?_, fun q h1 h2 => ?_, fun {out} => ?_⟩
    · rw [r1 F j (by omega), ko F j (by omega)]
    · by_cases e : q = p
      · subst e
        have := kdO_kd s o q
        unfold kd at this ⊢
        rw [r1 70 q (by omega), r1 71 q (by omega), r1 72 q (by omega), r1 73 q (by omega), r1 74 q (by omega), r1 75 q (by omega), r1 76 q (by omega), r1 77 q (by omega), r1 78 q (by omega)]
        exact this
      · have := r2 q (by omega) h2
        unfold kd at this ⊢
        rw [ko 64 q (by omega), ko 65 q (by omega), ko 66 q (by omega)] at this
        exact this
    · rw [e_X9_keepState_2 rfl]
      simp only [e_X9_keepState_3, e_X9_keepState_4, e_X9_keepState_10, e_X9_keepState_13, e_X9_keepState_14, e_X9_keepState_17, e_X9_keepState_21n, e_X9_keepState_21, e_X9_keepState_24, e_X9_keepState_27, e_X9_keepState_28, e_X9_keepState_31, e_X9_keepState_35n, e_X9_keepState_35, e_X9_keepState_38, e_X9_keepState_44, e_X9_keepState_47, e_X9_keepState_50, e_X9_keepState_51, cO_0 hY, cg_0_0 hY, cO_30 hY, cg_30_5 hY, cg_30_4 hY, cg_0_1 hY, cO_34 hY, cg_34_8 hY, cg_34_7 hY, cg_0_7 hY, cg_0_6 hY, hb_0 hY, cw_0_14 hY, rP_n, rS_n, xrd_rP, xrd_rS, xfit_rP, xfit_rS, xcat_rP, xcat_rS, nem, su_get, z1e0, z2e0, z3e0, z4e0, z5e0, z0e1, zme0, Nat.reduceEqDiff, not_true_eq_false, and_self, false_or, or_false, or_self,  bI_eq0, bI_eq1, i10, i20, i30, i00, ne_eq, Decidable.not_not, true_and, and_true, false_and, and_false, xrd_ref, xrd_null, xrd_rf, xid_int, xcat_int, xcat_ref, xcat_null, xcat_long, xcat_rf, xfit_int, xfit_0, xfit_1, xfit_ref, xfit_null, xfit_rf, not_false_eq_true, ↓reduceIte, z01_0, z01_1, bI_01, true_or, or_true, c_X9_keepState_7 (cO_1 hY) k1, c_X9_keepState_18 (cO_1 hY) k2, c_X9_keepState_32 _ (cO_1 hY) k2, c_X9_keepState_41 _ (cO_32 hY hpP) k3, h2, hpP, cO_30 hY, nI_1]
      exact r3
theorem lp_keepT (hS : s 19 0 = nI S) : ∀ (f x : Nat) (o : mS), x + f = S → zo g A z o P S → ∃ o', (∀ F j, F < 80 ∨ 87 < F ∨ j < x → o' F j = o F j) ∧ (∀ q, x ≤ q → q < S → kt s o' q) ∧ ∀ {out : xR}, Ev g 85 52 [some (.ref (A 0 0)), some (.int (nI x))] [] (cp A z s o) out = Ev g 85 100 [some (.ref (A 0 0)), some (.int (nI S))] [] (cp A z s o') out := by
  intro f
  induction f with
  | zero =>
    intro x o hx hz
    have hY := hz.1
    have hS4 := hY.2.2.2.2.2.1.2
    have k1 := ss_size (g := g) (A := A) (s := s) hz hS
    have h2 : nI S ≤ nI x := nI_le (by omega) (by omega)
    have e : x = S := by omega
    subst e
    refine ⟨o, fun _ _ _ => rfl, fun q h1 h2 => by omega, fun {out} => ?_⟩
    rw [e_X9_keepState_52 rfl]
    simp only [e_X9_keepState_53, e_X9_keepState_54, e_X9_keepState_60, e_X9_keepState_63, e_X9_keepState_64, e_X9_keepState_67, e_X9_keepState_71n, e_X9_keepState_71, e_X9_keepState_74, e_X9_keepState_77, e_X9_keepState_78, e_X9_keepState_81, e_X9_keepState_85n, e_X9_keepState_85, e_X9_keepState_88, e_X9_keepState_94, e_X9_keepState_97, cO_0 hY, cg_0_0 hY, cO_30 hY, cg_30_5 hY, cg_30_4 hY, cg_0_1 hY, cO_34 hY, cg_34_8 hY, cg_34_7 hY, cg_0_7 hY, cg_0_6 hY, hb_0 hY, cw_0_14 hY, rP_n, rS_n, xrd_rP, xrd_rS, xfit_rP, xfit_rS, xcat_rP, xcat_rS, nem, su_get, z1e0, z2e0, z3e0, z4e0, z5e0, z0e1, zme0, Nat.reduceEqDiff, not_true_eq_false, and_self, false_or, or_false, or_self,  bI_eq0, bI_eq1, i10, i20, i30, i00, ne_eq, Decidable.not_not, true_and, and_true, false_and, and_false, xrd_ref, xrd_null, xrd_rf, xid_int, xcat_int, xcat_ref, xcat_null, xcat_long, xcat_rf, xfit_int, xfit_0, xfit_1, xfit_ref, xfit_null, xfit_rf, not_false_eq_true, ↓reduceIte, z01_0, z01_1, bI_01, true_or, or_true, c_X9_keepState_57 (cO_2 hY) k1, h2]
  | succ f ih =>
    intro x o hx hz
    have hY := hz.1
    have hS4 := hY.2.2.2.2.2.1.2
    have k1 := ss_size (g := g) (A := A) (s := s) hz hS
    have h2 : ¬ nI S ≤ nI x := nI_ge (by omega) (by omega)
    have hxS : x < S := by omega
    have k2 := ss_get (g := g) (A := A) (s := s) hz hS hxS
    have k3 := cd_keepTrip (g := g) (s := s) (o := o) hY hxS
    have ko : ∀ F j, F < 80 ∨ 87 < F ∨ j ≠ x → ktO s o x F j = o F j := fun F j h => ktO_o s o x h
    obtain ⟨o', r1, r2, r3⟩ := ih (x + 1) (ktO s o x) (by omega) (zo_o hz (ko _ _ (by omega)) (ko _ _ (by omega)) (ko _ _ (by omega)) (fun j => ko _ _ (by omega)) (fun j => ko _ _ (by omega)) (fun j => ko _ _ (by omega)))
    refine ⟨o', fun F j h => ?_, fun q h1 h2 => ?_, fun {out} => ?_⟩
    · rw [r1 F j (by omega), ko F j (by omega)]
    · by_cases e : q = x
      · subst e
        have := ktO_kt s o q
        unfold kt at this ⊢
        rw [r1 80 q (by omega), r1 81 q (by omega), r1 82 q (by omega), r1 83 q (by omega), r1 84 q (by omega), r1 85 q (by omega), r1 86 q (by omega), r1 87 q (by omega)]
        exact this
      · exact r2 q (by omega) h2
    · rw [e_X9_keepState_52 rfl]
      simp only [e_X9_keepState_53, e_X9_keepState_54, e_X9_keepState_60, e_X9_keepState_63, e_X9_keepState_64, e_X9_keepState_67, e_X9_keepState_71n, e_X9_keepState_71, e_X9_keepState_74, e_X9_keepState_77, e_X9_keepState_78, e_X9_keepState_81, e_X9_keepState_85n, e_X9_keepState_85, e_X9_keepState_88, e_X9_keepState_94, e_X9_keepState_97, cO_0 hY, cg_0_0 hY, cO_30 hY, cg_30_5 hY, cg_30_4 hY, cg_0_1 hY, cO_34 hY, cg_34_8 hY, cg_34_7 hY, cg_0_7 hY, cg_0_6 hY, hb_0 hY, cw_0_14 hY, rP_n, rS_n, xrd_rP, xrd_rS, xfit_rP, xfit_rS, xcat_rP, xcat_rS, nem, su_get, z1e0, z2e0, z3e0, z4e0, z5e0, z0e1, zme0, Nat.reduceEqDiff, not_true_eq_false, and_self, false_or, or_false, or_self,  bI_eq0, bI_eq1, i10, i20, i30, i00, ne_eq, Decidable.not_not, true_and, and_true, false_and, and_false, xrd_ref, xrd_null, xrd_rf, xid_int, xcat_int, xcat_ref, xcat_null, xcat_long, xcat_rf, xfit_int, xfit_0, xfit_1, xfit_ref, xfit_null, xfit_rf, not_false_eq_true, ↓reduceIte, z01_0, z01_1, bI_01, true_or, or_true, c_X9_keepState_57 (cO_2 hY) k1, c_X9_keepState_68 (cO_2 hY) k2, c_X9_keepState_82 _ (cO_2 hY) k2, c_X9_keepState_91 _ (cO_36 hY hxS) k3, h2, hxS, cO_34 hY, nI_1]
      exact r3
/-- what is kept -/
def kpt (s o o' : mS) (P S L : Nat) : Prop := (∀ q, q < P → kd s o o' q) ∧ (∀ x, x < S → kt s o' x) ∧ o' 91 0 = nI L ∧ ∀ j, j < L → o' 94 j = s 17 j
theorem cd_keep {L : Nat} {o : mS} {a1 : Option Value} (hz : zo g A z o P S) (hP : s 2 0 = nI P) (hS : s 19 0 = nI S) (hl : lOK s P L) (hc : L ≤ z.1.2.2 3) : ∃ z' o', zo g A z' o' P S ∧ zle g A z z' P S ∧ (∀ F j, (F < 60 ∨ (60 < F ∧ F < 63) ∨ (63 < F ∧ F < 70) ∨ F = 90 ∨ F = 92 ∨ F = 93 ∨ 94 < F) → o' F j = o F j) ∧ kpt s o o' P S L ∧ o' 60 0 = 1 ∧ Ev g 85 0 [some (.ref (A 0 0)), a1] [] (cp A z s o) (.inl none, cp A z' s o') := by
  have hY := hz.1
  have hP60 := hY.2.2.2.2.2.1.1
  have hLP := hl.2.1
  obtain ⟨o1, q1, q2, q3⟩ := lp_keepD (g := g) (A := A) (z := z) (S := S) hP P 0 o (by omega) hz
  have z1 := zo_o hz (q1 90 0 (by decide)) (q1 91 0 (by decide)) (q1 92 0 (by decide)) (fun j => q1 93 j (by omega)) (fun j => q1 94 j (by omega)) (fun j => q1 95 j (by omega))
  obtain ⟨o2, r1, r2, r3⟩ := lp_keepT (g := g) (A := A) (z := z) (P := P) hS S 0 o1 (by omega) z1
  have z2 := zo_o z1 (r1 90 0 (by decide)) (r1 91 0 (by decide)) (r1 92 0 (by decide)) (fun j => r1 93 j (by omega)) (fun j => r1 94 j (by omega)) (fun j => r1 95 j (by omega))
  obtain ⟨K, K1, K2, K3, K4⟩ := z2.2.2.2.1
  obtain ⟨z', s', o3, u1, u2, u3, u4, u5, u6⟩ := cd_copy (g := g) (A := A) (s := s) (o := o2) (l := 4) (l2 := 3) (n := L) (n1 := K) (N := fun j => (s 17 j).toNatClampNeg) (a2 := none) (by decide) (by decide) (by decide) (by decide) (by decide) (by omega) (fun j hj => by
    obtain ⟨p, hp, e⟩ := hl.2.2.1 j hj
    simp only [e, nI_clamp (show p < 2 ^ 31 by omega)]
    exact hp) hY hl.1 hc (fun j hj => by
    obtain ⟨p, hp, e⟩ := hl.2.2.1 j hj
    simp only [raw, e, nI_clamp (show p < 2 ^ 31 by omega)]) K2 K3
  have es : s' = s := funext fun F => funext fun j => u3.1 F j (ownS_ne4 F j)
  subst es
  have eo : ∀ F j, F ≠ 63 → F ≠ 91 → F ≠ 94 → o3 F j = o2 F j := by
    intro F j a b c
    refine u3.2 F j ?_
    unfold ownO
    split <;> simp_all
  have m := u1.2.2.2.2
  have z3 : zo g A z' o3 P S := by
    refine ⟨u1.1, ⟨Nat.le_trans z2.2.1.1 (m 0), Nat.le_trans z2.2.1.2 (m 1)⟩, ⟨by rw [eo _ _ (by decide) (by decide) (by decide)]; exact z2.2.2.1.1, Nat.le_trans z2.2.2.1.2.1 (m 2), fun j hj => by rw [eo _ _ (by decide) (by decide) (by decide)]; exact z2.2.2.1.2.2 j hj⟩, ⟨L, by omega, u4, u2, fun j hj => by
      obtain ⟨p, hp, e⟩ := hl.2.2.1 j hj
      have := u5 j hj
      simp only [raw, e, nI_clamp (show p < 2 ^ 31 by omega)] at this
      exact ⟨p, hp, this⟩⟩, ?_⟩
    obtain ⟨W, w1, w2, w3, w4⟩ := z2.2.2.2.2
    exact ⟨W, w1, by rw [eo _ _ (by decide) (by decide) (by decide)]; exact w2, Nat.le_trans w3 (m 5), fun j hj => by rw [eo _ _ (by decide) (by decide) (by decide)]; exact w4 j hj⟩
  have f60 : ∀ F j, F ≠ 60 → su o3 60 0 1 F j = o3 F j := fun F j h => su_other _ _ h
  refine ⟨z', su o3 60 0 1, zo_o z3 (f60 _ _ (by decide)) (f60 _ _ (by decide)) (f60 _ _ (by decide)) (fun j => f60 _ _ (by decide)) (fun j => f60 _ _ (by decide)) (fun j => f60 _ _ (by decide)), u1, fun F j h => ?_, ⟨fun q hq => ?_, fun x hx => ?_, ?_, fun j hj => ?_⟩, by simp [su], ?_⟩
  · rw [f60 _ _ (by omega), eo _ _ (by omega) (by omega) (by omega), r1 _ _ (by omega), q1 _ _ (by omega)]
  · have := q2 q (Nat.zero_le _) hq
    unfold kd at this ⊢
    have e : ∀ F, 70 ≤ F → F ≤ 78 → su o3 60 0 1 F q = o1 F q := fun F h1 h2 => by rw [f60 _ _ (by omega), eo _ _ (by omega) (by omega) (by omega), r1 _ _ (by omega)]
    rw [e 70 (by decide) (by decide), e 71 (by decide) (by decide), e 72 (by decide) (by decide), e 73 (by decide) (by decide), e 74 (by decide) (by decide), e 75 (by decide) (by decide), e 76 (by decide) (by decide), e 77 (by decide) (by decide), e 78 (by decide) (by decide)]
    exact this
  · have := r2 x (Nat.zero_le _) hx
    unfold kt at this ⊢
    have e : ∀ F, 80 ≤ F → F ≤ 87 → su o3 60 0 1 F x = o2 F x := fun F h1 h2 => by rw [f60 _ _ (by omega), eo _ _ (by omega) (by omega) (by omega)]
    rw [e 80 (by decide) (by decide), e 81 (by decide) (by decide), e 82 (by decide) (by decide), e 83 (by decide) (by decide), e 84 (by decide) (by decide), e 85 (by decide) (by decide), e 86 (by decide) (by decide), e 87 (by decide) (by decide)]
    exact this
  · rw [f60 _ _ (by decide)]; exact u4
  · rw [f60 _ _ (by decide)]
    obtain ⟨p, hp, e⟩ := hl.2.2.1 j hj
    have := u5 j hj
    simp only [raw, e, nI_clamp (show p < 2 ^ 31 by omega)] at this
    rw [e]; exact this
  · rw [nI_0] at q3 r3
    have hY' := u1.1
    simp only [e_X9_keepState_0, e_X9_keepState_1, nem, su_get, z1e0, z2e0, z3e0, z4e0, z5e0, z0e1, zme0, Nat.reduceEqDiff, not_true_eq_false, and_self, false_or, or_false, or_self,  bI_eq0, bI_eq1, i10, i20, i30, i00, ne_eq, Decidable.not_not, true_and, and_true, false_and, and_false, xrd_ref, xrd_null, xrd_rf, xid_int, xcat_int, xcat_ref, xcat_null, xcat_long, xcat_rf, xfit_int, xfit_0, xfit_1, xfit_ref, xfit_null, xfit_rf, not_false_eq_true, ↓reduceIte, z01_0, z01_1, bI_01, true_or, or_true, q3, r3]
    simp only [e_X9_keepState_100, e_X9_keepState_101, e_X9_keepState_104, e_X9_keepState_105, e_X9_keepState_111, e_X9_keepState_112, e_X9_keepState_113, e_X9_keepState_116, cO_0 hY, cg_0_7 hY, cg_0_6 hY, nem, su_get, z1e0, z2e0, z3e0, z4e0, z5e0, z0e1, zme0, Nat.reduceEqDiff, not_true_eq_false, and_self, false_or, or_false, or_self,  bI_eq0, bI_eq1, i10, i20, i30, i00, ne_eq, Decidable.not_not, true_and, and_true, false_and, and_false, xrd_ref, xrd_null, xrd_rf, xid_int, xcat_int, xcat_ref, xcat_null, xcat_long, xcat_rf, xfit_int, xfit_0, xfit_1, xfit_ref, xfit_null, xfit_rf, not_false_eq_true, ↓reduceIte, z01_0, z01_1, bI_01, true_or, or_true, c_X9_keepState_108 _ (cO_20 hY) u6, cO_0 hY', cw_0_14 hY', hb_0 hY]
end CK
