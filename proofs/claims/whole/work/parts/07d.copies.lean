/-! ===== the class: places marked, lists copied ===== -/
/-- the places of the list, from i on, f more -/
def mkO (s : mS) : Nat → Nat → mS → mS
  | 0, _, o => o
  | f + 1, i, o => mkO s f (i + 1) (su o 66 (s 17 i).toNatClampNeg (nI i))
theorem mkO_o (s : mS) : ∀ (f i : Nat) (o : mS) {F : Nat}, F ≠ 66 → ∀ j, mkO s f i o F j = o F j := by
  intro f
  induction f with
  | zero => intros; rfl
  | succ f ih => intro i o F h j; rw [mkO, ih _ _ h, su_other _ _ h]
theorem mkO_66 {s : mS} {P L : Nat} (hP : P ≤ 60) (hl : lOK s P L) : ∀ (f i : Nat) (o : mS), i + f = L → (∀ j, i ≤ j → j < L → mkO s f i o 66 (s 17 j).toNatClampNeg = nI j) ∧ (∀ q, (∀ j, i ≤ j → j < L → (s 17 j).toNatClampNeg ≠ q) → mkO s f i o 66 q = o 66 q) := by
  have inj : ∀ j k, j < L → k < L → (s 17 j).toNatClampNeg = (s 17 k).toNatClampNeg → j = k := by
    intro j k hj hk e
    obtain ⟨p, hp, e1⟩ := hl.2.2.1 j hj
    obtain ⟨q, hq, e2⟩ := hl.2.2.1 k hk
    rw [e1, e2, nI_clamp (by omega), nI_clamp (by omega)] at e
    exact hl.2.2.2 j k hj hk (by rw [e1, e2, e])
  intro f
  induction f with
  | zero => intro i o hi; exact ⟨fun j h1 h2 => by omega, fun q h => rfl⟩
  | succ f ih =>
    intro i o hi
    obtain ⟨a1, a2⟩ := ih (i + 1) (su o 66 (s 17 i).toNatClampNeg (nI i)) (by omega)
    refine ⟨fun j h1 h2 => ?_, fun q h => ?_⟩
    · rw [mkO]
      by_cases x : j = i
      · subst x
        rw [a2 _ (fun k k1 k2 e => by have := inj k j k2 h2 e; omega)]
        simp [su]
      · exact a1 j (by omega) h2
    · rw [mkO, a2 q (fun j h1 h2 => h j (by omega) h2)]
      have := h i (Nat.le_refl _) (by omega)
      simp [su, Ne.symm this]
section CM
variable {g : Nat × Nat × Nat} {A : Nat → Nat → Nat} {z : zT} {s o s' o' : mS} {P S l : Nat}
theorem lp_mark {L : Nat} (hY : zok g A z P S) (hl : lOK s P L) (hc : L ≤ z.1.2.2 3) : ∀ (f i : Nat) (o : mS), i + f = L → Ev g 42 2 [some (.ref (A 19 0)), some (.int (nI i))] [] (cp A z s o) (.inl none, cp A z s (mkO s f i o)) := by
  have h6 := hY.2.2.2.2.2.1.1
  have hL := hl.1
  have hLP := hl.2.1
  intro f
  induction f with
  | zero =>
    intro i o hi
    have k1 := cl_size (s := s) (o := o) hY (l := 3) (by decide)
    simp only [sz, hL] at k1
    have h2 : nI L ≤ nI i := nI_le (by omega) (by omega)
    simp only [e_X5_markPlaces_0, e_X5_markPlaces_1, e_X5_markPlaces_2, e_X5_markPlaces_3, e_X5_markPlaces_4, e_X5_markPlaces_10, e_X5_markPlaces_13, e_X5_markPlaces_14, e_X5_markPlaces_17, e_X5_markPlaces_21n, e_X5_markPlaces_21, e_X5_markPlaces_24, e_X5_markPlaces_27, e_X5_markPlaces_28, e_X5_markPlaces_31, e_X5_markPlaces_34, e_X5_markPlaces_37, cO_19 hY, cg_19_0 hY, cO_20 hY, cg_20_0 hY, cO_21 hY, cg_21_0 hY, cO_30 hY, cg_30_4 hY, cO_31 hY, hb_31 hY, cw_31_7 hY, cO_32 hY, hb_32 hY, cw_32_7 hY, rP_n, rS_n, xrd_rP, xrd_rS, xfit_rP, xfit_rS, xcat_rP, xcat_rS, nem, su_get, z1e0, z2e0, z3e0, z4e0, z5e0, z0e1, zme0, Nat.reduceEqDiff, not_true_eq_false, and_self, false_or, or_false, or_self,  bI_eq0, bI_eq1, i10, i20, i30, i00, ne_eq, Decidable.not_not, true_and, and_true, false_and, and_false, xrd_ref, xrd_null, xrd_rf, xid_int, xcat_int, xcat_ref, xcat_null, xcat_long, xcat_rf, xfit_int, xfit_0, xfit_1, xfit_ref, xfit_null, xfit_rf, not_false_eq_true, ↓reduceIte, z01_0, z01_1, bI_01, true_or, or_true, c_X5_markPlaces_7 (cO_4 hY) k1, h2, mkO]
  | succ f ih =>
    intro i o hi
    have k1 := cl_size (s := s) (o := o) hY (l := 3) (by decide)
    simp only [sz, hL] at k1
    have h2 : ¬ nI L ≤ nI i := nI_ge (by omega) (by omega)
    obtain ⟨q, hq, eq⟩ := hl.2.2.1 i (by omega)
    have k2 := cl_get (s := s) (o := o) hY (l := 3) (n := L) (i := i) (by decide) hL hc (by omega)
    simp only [nu, lk, eq, nI_clamp (show q < 2 ^ 31 by omega)] at k2
    rw [e_X5_markPlaces_2 rfl]
    have := ih (i + 1) (su o 66 q (nI i)) (by omega)
    simp only [e_X5_markPlaces_0, e_X5_markPlaces_1, e_X5_markPlaces_3, e_X5_markPlaces_4, e_X5_markPlaces_10, e_X5_markPlaces_13, e_X5_markPlaces_14, e_X5_markPlaces_17, e_X5_markPlaces_21n, e_X5_markPlaces_21, e_X5_markPlaces_24, e_X5_markPlaces_27, e_X5_markPlaces_28, e_X5_markPlaces_31, e_X5_markPlaces_34, e_X5_markPlaces_37, cO_19 hY, cg_19_0 hY, cO_20 hY, cg_20_0 hY, cO_21 hY, cg_21_0 hY, cO_30 hY, cg_30_4 hY, cO_31 hY, hb_31 hY, cw_31_7 hY, cO_32 hY, hb_32 hY, cw_32_7 hY, rP_n, rS_n, xrd_rP, xrd_rS, xfit_rP, xfit_rS, xcat_rP, xcat_rS, nem, su_get, z1e0, z2e0, z3e0, z4e0, z5e0, z0e1, zme0, Nat.reduceEqDiff, not_true_eq_false, and_self, false_or, or_false, or_self,  bI_eq0, bI_eq1, i10, i20, i30, i00, ne_eq, Decidable.not_not, true_and, and_true, false_and, and_false, xrd_ref, xrd_null, xrd_rf, xid_int, xcat_int, xcat_ref, xcat_null, xcat_long, xcat_rf, xfit_int, xfit_0, xfit_1, xfit_ref, xfit_null, xfit_rf, not_false_eq_true, ↓reduceIte, z01_0, z01_1, bI_01, true_or, or_true, c_X5_markPlaces_7 (cO_4 hY) k1, c_X5_markPlaces_18 (cO_4 hY) k2, h2, hq, nI_1, mkO, eq, nI_clamp (show q < 2 ^ 31 by omega)]
    exact this
theorem cd_mark {L : Nat} {a1 : Option Value} (hY : zok g A z P S) (hl : lOK s P L) (hc : L ≤ z.1.2.2 3) : Ev g 42 0 [some (.ref (A 19 0)), a1] [] (cp A z s o) (.inl none, cp A z s (mkO s L 0 o)) := by
  have := lp_mark (g := g) (s := s) hY hl hc L 0 o (by omega)
  rw [nI_0] at this
  simp only [e_X5_markPlaces_0, e_X5_markPlaces_1, nem, su_get, z1e0, z2e0, z3e0, z4e0, z5e0, z0e1, zme0, Nat.reduceEqDiff, not_true_eq_false, and_self, false_or, or_false, or_self,  bI_eq0, bI_eq1, i10, i20, i30, i00, ne_eq, Decidable.not_not, true_and, and_true, false_and, and_false, xrd_ref, xrd_null, xrd_rf, xid_int, xcat_int, xcat_ref, xcat_null, xcat_long, xcat_rf, xfit_int, xfit_0, xfit_1, xfit_ref, xfit_null, xfit_rf, not_false_eq_true, ↓reduceIte, z01_0, z01_1, bI_01, true_or, or_true]
  exact this
/-- a number more at the end of the list l -/
def apS1 (l n x : Nat) (s : mS) : mS := match l with | 3 => su (su s 17 n (nI x)) 18 0 (nI (n + 1)) | _ => s
def apO1 (l n x : Nat) (o : mS) : mS := match l with | 3 => mc o 3 | 4 => mc (su (su o 94 n (nI x)) 91 0 (nI (n + 1))) 4 | _ => mc (su (su o 95 n (nI x)) 92 0 (nI (n + 1))) 5
def clS1 (l : Nat) (s : mS) : mS := match l with | 3 => su s 18 0 0 | _ => s
def clO1 (l : Nat) (o : mS) : mS := match l with | 3 => mc o 3 | 4 => mc (su o 91 0 0) 4 | _ => mc (su o 92 0 0) 5
def raw (s o : mS) (l j : Nat) : Int32 := match l with | 3 => s 17 j | 4 => o 94 j | _ => o 95 j
theorem lch_mk {l : Nat} (h : ∀ F j, ownS F j ≠ (l + 1, 0) → s' F j = s F j) (ho : ∀ F j, ownO F j ≠ (l + 1, 0) → o' F j = o F j) : lch l s o s' o' := ⟨h, ho⟩
theorem lch_trans {s2 o2 : mS} (h1 : lch l s o s' o') (h2 : lch l s' o' s2 o2) : lch l s o s2 o2 := ⟨fun F j e => (h2.1 F j e).trans (h1.1 F j e), fun F j e => (h2.2 F j e).trans (h1.2 F j e)⟩
theorem lch_s {F j : Nat} {v : Int32} (hO : ownS F j = (l + 1, 0)) (h : lch l s o s' o') : lch l s o (su s' F j v) o' := by
  refine ⟨fun F2 j2 e => ?_, h.2⟩
  rw [su_get, if_neg]
  · exact h.1 F2 j2 e
  · rintro ⟨rfl, rfl⟩; exact e hO
theorem lch_o {F j : Nat} {v : Int32} (hO : ownO F j = (l + 1, 0)) (h : lch l s o s' o') : lch l s o s' (su o' F j v) := by
  refine ⟨h.1, fun F2 j2 e => ?_⟩
  rw [su_get, if_neg]
  · exact h.2 F2 j2 e
  · rintro ⟨rfl, rfl⟩; exact e hO
theorem lch_refl : lch l s o s o := ⟨fun _ _ _ => rfl, fun _ _ _ => rfl⟩
theorem ap_lch {n x : Nat} (h3 : 3 ≤ l) (h6 : l < 6) : lch l s o (apS1 l n x s) (apO1 l n x o) := by
  match l, h3, h6 with
  | 3, _, _ => exact lch_o rfl (lch_s rfl (lch_s rfl lch_refl))
  | 4, _, _ => exact lch_o rfl (lch_o rfl (lch_o rfl lch_refl))
  | 5, _, _ => exact lch_o rfl (lch_o rfl (lch_o rfl lch_refl))
theorem cl_lch (h3 : 3 ≤ l) (h6 : l < 6) : lch l s o (clS1 l s) (clO1 l o) := by
  match l, h3, h6 with
  | 3, _, _ => exact lch_o rfl (lch_s rfl lch_refl)
  | 4, _, _ => exact lch_o rfl (lch_o rfl lch_refl)
  | 5, _, _ => exact lch_o rfl (lch_o rfl lch_refl)
theorem ap_63 {n x : Nat} (h3 : 3 ≤ l) (h6 : l < 6) : apO1 l n x o 63 l = o 63 l + 1 := by
  match l, h3, h6 with
  | 3, _, _ => simp [apO1, mc, su]
  | 4, _, _ => simp [apO1, mc, su]
  | 5, _, _ => simp [apO1, mc, su]
theorem cl_63 (h3 : 3 ≤ l) (h6 : l < 6) : clO1 l o 63 l = o 63 l + 1 := by
  match l, h3, h6 with
  | 3, _, _ => simp [clO1, mc, su]
  | 4, _, _ => simp [clO1, mc, su]
  | 5, _, _ => simp [clO1, mc, su]
theorem ap_sz {n x : Nat} (h3 : 3 ≤ l) (h6 : l < 6) : sz (apS1 l n x s) (apO1 l n x o) l = nI (n + 1) := by
  match l, h3, h6 with
  | 3, _, _ => simp [apS1, sz, su]
  | 4, _, _ => simp [apO1, mc, sz, su]
  | 5, _, _ => simp [apO1, mc, sz, su]
theorem cl_sz (h3 : 3 ≤ l) (h6 : l < 6) : sz (clS1 l s) (clO1 l o) l = 0 := by
  match l, h3, h6 with
  | 3, _, _ => simp [clS1, sz, su]
  | 4, _, _ => simp [clO1, mc, sz, su]
  | 5, _, _ => simp [clO1, mc, sz, su]
theorem raw_nu (h3 : 3 ≤ l) (h6 : l < 6) (j : Nat) : nu s o l j = (raw s o l j).toNatClampNeg := by
  match l, h3, h6 with
  | 3, _, _ => rfl
  | 4, _, _ => rfl
  | 5, _, _ => rfl
theorem ap_raw {n x : Nat} (h3 : 3 ≤ l) (h6 : l < 6) (j : Nat) : raw (apS1 l n x s) (apO1 l n x o) l j = if j = n then nI x else raw s o l j := by
  match l, h3, h6 with
  | 3, _, _ => by_cases e : j = n <;> simp [apS1, raw, su, e]
  | 4, _, _ => by_cases e : j = n <;> simp [apO1, mc, raw, su, e]
  | 5, _, _ => by_cases e : j = n <;> simp [apO1, mc, raw, su, e]
/-- another list is as it was -/
theorem lch_sz {l2 : Nat} (h : lch l s o s' o') (h3 : 3 ≤ l2) (h6 : l2 < 6) (hne : l ≠ l2) : sz s' o' l2 = sz s o l2 ∧ ∀ j, raw s' o' l2 j = raw s o l2 j := by
  have q : ∀ k, k + 1 ≠ l + 1 → ((k + 1, 0) : Nat × Nat) ≠ (l + 1, 0) := fun k hk e => hk (Prod.mk.inj e).1
  match l2, h3, h6, hne with
  | 3, _, _, hne => exact ⟨h.1 18 0 (q 3 (by omega)), fun j => h.1 17 j (q 3 (by omega))⟩
  | 4, _, _, hne => exact ⟨h.2 91 0 (q 4 (by omega)), fun j => h.2 94 j (q 4 (by omega))⟩
  | 5, _, _, hne => exact ⟨h.2 92 0 (q 5 (by omega)), fun j => h.2 95 j (q 5 (by omega))⟩
theorem lp_ccopy {l2 n : Nat} {N : Nat → Nat} (h3 : 3 ≤ l) (h6 : l < 6) (h32 : 3 ≤ l2) (h62 : l2 < 6) (hne : l ≠ l2) (h60 : n ≤ 60) (hN : ∀ j, j < n → N j < P) : ∀ (f i : Nat) (z : zT) (s o : mS), i + f = n → zok g A z P S → sz s o l2 = nI n → n ≤ z.1.2.2 l2 → (∀ j, j < n → raw s o l2 j = nI (N j)) → sz s o l = nI i → i ≤ z.1.2.2 l → (∀ j, j < i → raw s o l j = nI (N j)) → ∃ z' s' o', zle g A z z' P S ∧ n ≤ z'.1.2.2 l ∧ lch l s o s' o' ∧ sz s' o' l = nI n ∧ (∀ j, j < n → raw s' o' l j = nI (N j)) ∧ Ev g 43 9 [some (.ref (A (l + 16) 0)), some (.ref (A (l2 + 16) 0)), some (.int (nI i))] [] (cp A z s o) (.inl none, cp A z' s' o') := by
  intro f
  induction f with
  | zero =>
    intro i z s o hi hY hn2 hc2 hr2 hn1 hc1 hr1
    have e : i = n := by omega
    subst e
    refine ⟨z, s, o, zle_refl hY, hc1, lch_refl, hn1, hr1, ?_⟩
    have k1 := cl_size (s := s) (o := o) hY h62
    rw [hn2] at k1
    have h2 : nI i ≤ nI i := nI_le (Nat.le_refl _) (by omega)
    simp only [e_X5_copyFrom_9, e_X5_copyFrom_10, e_X5_copyFrom_11, e_X5_copyFrom_17, e_X5_copyFrom_20, e_X5_copyFrom_21, e_X5_copyFrom_24, e_X5_copyFrom_25, e_X5_copyFrom_28, e_X5_copyFrom_32n, e_X5_copyFrom_32, e_X5_copyFrom_38, e_X5_copyFrom_39, e_X5_copyFrom_42, e_X5_copyFrom_45, nem, su_get, z1e0, z2e0, z3e0, z4e0, z5e0, z0e1, zme0, Nat.reduceEqDiff, not_true_eq_false, and_self, false_or, or_false, or_self,  bI_eq0, bI_eq1, i10, i20, i30, i00, ne_eq, Decidable.not_not, true_and, and_true, false_and, and_false, xrd_ref, xrd_null, xrd_rf, xid_int, xcat_int, xcat_ref, xcat_null, xcat_long, xcat_rf, xfit_int, xfit_0, xfit_1, xfit_ref, xfit_null, xfit_rf, not_false_eq_true, ↓reduceIte, z01_0, z01_1, bI_01, true_or, or_true, ro_O hY h32 h62, ro_g hY h32 h62, c_X5_copyFrom_14 (lO hY h62) k1, h2]
  | succ f ih =>
    intro i z s o hi hY hn2 hc2 hr2 hn1 hc1 hr1
    have hPx := hY.2.2.2.2.2.1.1
    have k1 := cl_size (s := s) (o := o) hY h62
    rw [hn2] at k1
    have h2 : ¬ nI n ≤ nI i := nI_ge (by omega) (by omega)
    have k2 := cl_get (s := s) (o := o) hY h62 (n := n) (i := i) hn2 hc2 (by omega)
    have hNi := hN i (by omega)
    rw [lk3 h32, raw_nu h32 h62, hr2 i (by omega), nI_clamp (by omega)] at k2
    have el : ∀ j, j < i → lv z P S (lk l) (nu s o l j) := by
      intro j hj
      have := hN j (by omega)
      rw [lk3 h3, raw_nu h3 h6, hr1 j hj, nI_clamp (by omega)]
      exact lvP 30 (by decide) (by decide) this
    obtain ⟨z1, q1, q2, k3⟩ := cl_add (g := g) (s := s) (o := o) (s' := apS1 l i (N i) s) (o' := apO1 l i (N i) o) hY (l := l) (n := i) (x := N i) h6 hn1 hc1 (by omega) el (by rw [lk3 h3]; exact lvP 30 (by decide) (by decide) hNi) (ap_lch h3 h6) (ap_63 h3 h6) (ap_sz h3 h6) (fun j hj => by
      rw [raw_nu h3 h6, raw_nu h3 h6, ap_raw h3 h6, if_neg (by omega)]) (by
      rw [raw_nu h3 h6, ap_raw h3 h6, if_pos rfl, nI_clamp (by omega)])
    rw [lk3 h3] at k3
    have oth := lch_sz (ap_lch (s := s) (o := o) (n := i) (x := N i) h3 h6) h32 h62 hne
    obtain ⟨z', s', o', r1, r2, r3, r4, r5, r6⟩ := ih (i + 1) z1 (apS1 l i (N i) s) (apO1 l i (N i) o) (by omega) q1.1 (by rw [oth.1]; exact hn2) (Nat.le_trans hc2 (q1.2.2.2.2 l2)) (fun j hj => by rw [oth.2]; exact hr2 j hj) (ap_sz h3 h6) q2 (fun j hj => by
      rw [ap_raw h3 h6]
      by_cases e : j = i
      · rw [if_pos e, e]
      · rw [if_neg e]; exact hr1 j (by omega))
    refine ⟨z', s', o', zle_trans q1 r1, r2, lch_trans (ap_lch h3 h6) r3, r4, r5, ?_⟩
    rw [e_X5_copyFrom_9 rfl]
    simp only [e_X5_copyFrom_10, e_X5_copyFrom_11, e_X5_copyFrom_17, e_X5_copyFrom_20, e_X5_copyFrom_21, e_X5_copyFrom_24, e_X5_copyFrom_25, e_X5_copyFrom_28, e_X5_copyFrom_32n, e_X5_copyFrom_32, e_X5_copyFrom_38, e_X5_copyFrom_39, e_X5_copyFrom_42, e_X5_copyFrom_45, nem, su_get, z1e0, z2e0, z3e0, z4e0, z5e0, z0e1, zme0, Nat.reduceEqDiff, not_true_eq_false, and_self, false_or, or_false, or_self,  bI_eq0, bI_eq1, i10, i20, i30, i00, ne_eq, Decidable.not_not, true_and, and_true, false_and, and_false, xrd_ref, xrd_null, xrd_rf, xid_int, xcat_int, xcat_ref, xcat_null, xcat_long, xcat_rf, xfit_int, xfit_0, xfit_1, xfit_ref, xfit_null, xfit_rf, not_false_eq_true, ↓reduceIte, z01_0, z01_1, bI_01, true_or, or_true, ro_O hY h32 h62, ro_g hY h32 h62, ro_O hY h3 h6, ro_g hY h3 h6, c_X5_copyFrom_14 (lO hY h62) k1, c_X5_copyFrom_29 _ (lO hY h62) k2, c_X5_copyFrom_35 _ (lO hY h6) k3, h2, cO_30 hY, hNi, nI_1]
    exact r6
theorem cd_copy {l2 n n1 : Nat} {N : Nat → Nat} {a2 : Option Value} (h3 : 3 ≤ l) (h6 : l < 6) (h32 : 3 ≤ l2) (h62 : l2 < 6) (hne : l ≠ l2) (h60 : n ≤ 60) (hN : ∀ j, j < n → N j < P) (hY : zok g A z P S) (hn2 : sz s o l2 = nI n) (hc2 : n ≤ z.1.2.2 l2) (hr2 : ∀ j, j < n → raw s o l2 j = nI (N j)) (hn1 : sz s o l = nI n1) (hc1 : n1 ≤ z.1.2.2 l) : ∃ z' s' o', zle g A z z' P S ∧ n ≤ z'.1.2.2 l ∧ lch l s o s' o' ∧ sz s' o' l = nI n ∧ (∀ j, j < n → raw s' o' l j = nI (N j)) ∧ Ev g 43 0 [some (.ref (A (l + 16) 0)), some (.ref (A (l2 + 16) 0)), a2] [] (cp A z s o) (.inl none, cp A z' s' o') := by
  have k0 := cl_clear (g := g) (s := s) (o := o) (s' := clS1 l s) (o' := clO1 l o) hY h6 hn1 hc1 (cl_lch h3 h6) (cl_63 h3 h6) (cl_sz h3 h6)
  have oth := lch_sz (cl_lch (s := s) (o := o) h3 h6) h32 h62 hne
  obtain ⟨z', s', o', r1, r2, r3, r4, r5, r6⟩ := lp_ccopy (g := g) (A := A) (P := P) (S := S) h3 h6 h32 h62 hne h60 hN n 0 z (clS1 l s) (clO1 l o) (by omega) hY (by rw [oth.1]; exact hn2) hc2 (fun j hj => by rw [oth.2]; exact hr2 j hj) (by rw [nI_0]; exact cl_sz h3 h6) (Nat.zero_le _) (fun j hj => by omega)
  rw [nI_0] at r6
  refine ⟨z', s', o', r1, r2, lch_trans (cl_lch h3 h6) r3, r4, r5, ?_⟩
  simp only [e_X5_copyFrom_0, e_X5_copyFrom_1, e_X5_copyFrom_7, e_X5_copyFrom_8, nem, su_get, z1e0, z2e0, z3e0, z4e0, z5e0, z0e1, zme0, Nat.reduceEqDiff, not_true_eq_false, and_self, false_or, or_false, or_self,  bI_eq0, bI_eq1, i10, i20, i30, i00, ne_eq, Decidable.not_not, true_and, and_true, false_and, and_false, xrd_ref, xrd_null, xrd_rf, xid_int, xcat_int, xcat_ref, xcat_null, xcat_long, xcat_rf, xfit_int, xfit_0, xfit_1, xfit_ref, xfit_null, xfit_rf, not_false_eq_true, ↓reduceIte, z01_0, z01_1, bI_01, true_or, or_true, ro_O hY h3 h6, ro_g hY h3 h6, c_X5_copyFrom_4 (lO hY h6) k0]
  exact r6
end CM
