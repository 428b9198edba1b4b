/-! ===== the reference's queue, the way back, the ends ===== -/
section MD
variable {g : Nat × Nat × Nat} {m0 : Nat} {s : mS} {h : xH}
/-- ship x into the queue of a ships -/
def qiS (x : Nat) : Nat → mS → mS
  | 0, s => su s 50 0 (nI x)
  | a + 1, s => if s 21 (s 50 a).toNatClampNeg < s 21 x then qiS x a (su s 50 (a + 1) (s 50 a)) else su s 50 (a + 1) (nI x)
theorem qiS_o (x a : Nat) (s : mS) {k : Nat} (hk : k ≠ 50) (j : Nat) : qiS x a s k j = s k j := by
  induction a generalizing s with
  | zero => exact su_other _ _ hk
  | succ a ih =>
    rw [qiS]
    split
    · rw [ih, su_other _ _ hk]
    · exact su_other _ _ hk
theorem qiS_in (x a S : Nat) (s : mS) (hx : x < S) (hs : ∀ j, j < a → ∃ y, y < S ∧ s 50 j = nI y) : ∀ j, j < a + 1 → ∃ y, y < S ∧ qiS x a s 50 j = nI y := by
  have e : ∀ (b : Nat) (s : mS) (v : Int32) (j : Nat), su s 50 b v 50 j = if j = b then v else s 50 j := fun b s v j => by simp [su]
  induction a generalizing s with
  | zero =>
    intro j hj
    rw [qiS, e, if_pos (by omega)]
    exact ⟨x, hx, rfl⟩
  | succ a ih =>
    intro j hj
    rw [qiS]
    split
    · by_cases q : j = a + 1
      · subst q
        have : ∀ (b : Nat) (s : mS), b < a + 1 → qiS x b s 50 (a + 1) = s 50 (a + 1) := by
          intro b
          induction b with
          | zero => intro s _; rw [qiS, e, if_neg (by omega)]
          | succ b ih2 =>
            intro s hb
            rw [qiS]
            split
            · rw [ih2 _ (by omega), e, if_neg (by omega)]
            · rw [e, if_neg (by omega)]
        rw [this _ _ (by omega), e, if_pos rfl]
        exact hs a (by omega)
      · refine ih _ (fun i hi => ?_) j (by omega)
        rw [e, if_neg (by omega)]
        exact hs i (by omega)
    · rw [e]
      split
      · exact ⟨x, hx, rfl⟩
      · exact hs j (by omega)
theorem lp_qi {t n : Int32} {x S : Nat} {out : xR} (hm : g.1 ≤ m0) (hx : x < S) (hS : S ≤ 400) : ∀ (a : Nat) (s : mS), a < 400 → (∀ j, j < a → ∃ y, y < S ∧ s 50 j = nI y) → (∀ a4 : Option Value, Ev g 139 95 [some (.ref m0), some (.int t), some (.int n), some (.int (nI x)), a4] [] (mput m0 (qiS x a s) h) out) → Ev g 139 37 [some (.ref m0), some (.int t), some (.int n), some (.int (nI x)), some (.int (nI a))] [] (mput m0 s h) out := by
  have hn_x : ¬ nI x < 0 := nI_pos (by omega)
  have hc_x : (nI x).toNatClampNeg = x := nI_clamp (by omega)
  have hb_x : ¬ 400 ≤ x := by omega
  intro a
  induction a with
  | zero =>
    intro s ha hs k
    have e0 : nI 0 ≤ 0 := by decide +kernel
    have c0 : (nI 0).toNatClampNeg = 0 := nI_clamp (by omega)
    have n0 : ¬ nI 0 < 0 := nI_pos (by omega)
    have b0 : ¬ 400 ≤ 0 := by omega
    rw [e_X10_queue_37 rfl]
    simp only [e_X10_queue_39, e_X10_queue_42, e_X10_queue_43, e_X10_queue_46, e_X10_queue_47, e_X10_queue_50, e_X10_queue_52, e_X10_queue_53, e_X10_queue_54, e_X10_queue_55, e_X10_queue_56, e_X10_queue_57, e_X10_queue_60, e_X10_queue_61, e_X10_queue_62, e_X10_queue_65, e_X10_queue_66, e_X10_queue_69, e_X10_queue_71, e_X10_queue_72, e_X10_queue_75, e_X10_queue_77, e_X10_queue_78, e_X10_queue_79, e_X10_queue_80, e_X10_queue_81, e_X10_queue_84, e_X10_queue_87, e_X10_queue_88, e_X10_queue_91, e_X10_queue_93, e_X10_queue_94, mO, mg_19, mp_19, mg_26, mr_26, mA_26, ml_26, me_26, mp_26, mg_23, mr_23, mA_23, ml_23, me_23, mp_23, mg_21, mr_21, mA_21, ml_21, me_21, mp_21, mg_50, mr_50, mA_50, ml_50, me_50, mp_50, nem, su_get, z1e0, z2e0, z3e0, z4e0, z5e0, z0e1, zme0, Nat.reduceEqDiff, not_true_eq_false, and_self, false_or, or_false, or_self,  bI_eq0, bI_eq1, i10, i20, i30, i00, ne_eq, Decidable.not_not, true_and, and_true, false_and, and_false, xrd_ref, xrd_null, xrd_rf, xid_int, xcat_int, xcat_ref, xcat_null, xcat_long, xcat_rf, xfit_int, xfit_0, xfit_1, xfit_ref, xfit_null, xfit_rf, not_false_eq_true, ↓reduceIte, z01_0, z01_1, bI_01, true_or, or_true, e0, c0, n0, b0, hm, hmk hm]
    exact k _
  | succ a ih =>
    intro s ha hs k
    have e0 : ¬ nI (a + 1) ≤ 0 := by rw [← nI_0]; exact nI_ge (by omega) (by omega)
    have hn_b : ¬ nI (a+1) < 0 := nI_pos (by omega)
    have hc_b : (nI (a+1)).toNatClampNeg = (a+1) := nI_clamp (by omega)
    have hb_b : ¬ 400 ≤ (a+1) := by omega
    have hn_a : ¬ nI a < 0 := nI_pos (by omega)
    have hc_a : (nI a).toNatClampNeg = a := nI_clamp (by omega)
    have hb_a : ¬ 400 ≤ a := by omega
    obtain ⟨y, hy, ey⟩ := hs a (by omega)
    have hn_y : ¬ nI y < 0 := nI_pos (by omega)
    have hc_y : (nI y).toNatClampNeg = y := nI_clamp (by omega)
    have hb_y : ¬ 400 ≤ y := by omega
    have s1 : nI (a + 1) - 1 = nI a := nI_s1 (by omega)
    have s2 : nI (a + 1) + -1 = nI a := nI_m1 (by omega)
    rw [qiS] at k
    simp only [ey, hc_y] at k
    rw [e_X10_queue_37 rfl]
    by_cases c : s 21 y < s 21 x
    · rw [if_pos c] at k
      have c' : ¬ s 21 x ≤ s 21 y := Int32.not_le.mpr c
      have k := ih _ (by omega) (fun j hj => by
        simp only [su]
        rw [if_neg (by omega)]
        exact hs j (by omega)) k
      simp only [e_X10_queue_39, e_X10_queue_42, e_X10_queue_43, e_X10_queue_46, e_X10_queue_47, e_X10_queue_50, e_X10_queue_52, e_X10_queue_53, e_X10_queue_54, e_X10_queue_55, e_X10_queue_56, e_X10_queue_57, e_X10_queue_60, e_X10_queue_61, e_X10_queue_62, e_X10_queue_65, e_X10_queue_66, e_X10_queue_69, e_X10_queue_71, e_X10_queue_72, e_X10_queue_75, e_X10_queue_77, e_X10_queue_78, e_X10_queue_79, e_X10_queue_80, e_X10_queue_81, e_X10_queue_84, e_X10_queue_87, e_X10_queue_88, e_X10_queue_91, e_X10_queue_93, e_X10_queue_94, mO, mg_19, mp_19, mg_26, mr_26, mA_26, ml_26, me_26, mp_26, mg_23, mr_23, mA_23, ml_23, me_23, mp_23, mg_21, mr_21, mA_21, ml_21, me_21, mp_21, mg_50, mr_50, mA_50, ml_50, me_50, mp_50, nem, su_get, z1e0, z2e0, z3e0, z4e0, z5e0, z0e1, zme0, Nat.reduceEqDiff, not_true_eq_false, and_self, false_or, or_false, or_self,  bI_eq0, bI_eq1, i10, i20, i30, i00, ne_eq, Decidable.not_not, true_and, and_true, false_and, and_false, xrd_ref, xrd_null, xrd_rf, xid_int, xcat_int, xcat_ref, xcat_null, xcat_long, xcat_rf, xfit_int, xfit_0, xfit_1, xfit_ref, xfit_null, xfit_rf, not_false_eq_true, ↓reduceIte, z01_0, z01_1, bI_01, true_or, or_true, e0, hn_b, hc_b, hb_b, hn_a, hc_a, hb_a, hn_x, hc_x, hb_x, hn_y, hc_y, hb_y, s1, s2, ey, c', hm, hmk hm, k]
    · rw [if_neg c] at k
      have c' : s 21 x ≤ s 21 y := Int32.not_lt.mp c
      simp only [e_X10_queue_39, e_X10_queue_42, e_X10_queue_43, e_X10_queue_46, e_X10_queue_47, e_X10_queue_50, e_X10_queue_52, e_X10_queue_53, e_X10_queue_54, e_X10_queue_55, e_X10_queue_56, e_X10_queue_57, e_X10_queue_60, e_X10_queue_61, e_X10_queue_62, e_X10_queue_65, e_X10_queue_66, e_X10_queue_69, e_X10_queue_71, e_X10_queue_72, e_X10_queue_75, e_X10_queue_77, e_X10_queue_78, e_X10_queue_79, e_X10_queue_80, e_X10_queue_81, e_X10_queue_84, e_X10_queue_87, e_X10_queue_88, e_X10_queue_91, e_X10_queue_93, e_X10_queue_94, mO, mg_19, mp_19, mg_26, mr_26, mA_26, ml_26, me_26, mp_26, mg_23, mr_23, mA_23, ml_23, me_23, mp_23, mg_21, mr_21, mA_21, ml_21, me_21, mp_21, mg_50, mr_50, mA_50, ml_50, me_50, mp_50, nem, su_get, z1e0, z2e0, z3e0, z4e0, z5e0, z0e1, zme0, Nat.reduceEqDiff, not_true_eq_false, and_self, false_or, or_false, or_self,  bI_eq0, bI_eq1, i10, i20, i30, i00, ne_eq, Decidable.not_not, true_and, and_true, false_and, and_false, xrd_ref, xrd_null, xrd_rf, xid_int, xcat_int, xcat_ref, xcat_null, xcat_long, xcat_rf, xfit_int, xfit_0, xfit_1, xfit_ref, xfit_null, xfit_rf, not_false_eq_true, ↓reduceIte, z01_0, z01_1, bI_01, true_or, or_true, e0, hn_b, hc_b, hb_b, hn_a, hc_a, hb_a, hn_x, hc_x, hb_x, hn_y, hc_y, hb_y, s1, s2, ey, c', hm, hmk hm]
      exact k _
def quS (t : Int32) : Nat → Nat → Nat → mS → Nat × mS
  | 0, _, n, s => (n, s)
  | f + 1, x, n, s => if s 26 x = 0 ∧ s 23 x ≤ t then quS t f (x + 1) (n + 1) (qiS x n s) else quS t f (x + 1) n s
theorem quS_ok (t : Int32) (S : Nat) : ∀ (f x n : Nat) (s : mS), x + f = S → n ≤ x → (∀ j, j < n → ∃ y, y < S ∧ s 50 j = nI y) → (quS t f x n s).1 ≤ S ∧ (∀ j, j < (quS t f x n s).1 → ∃ y, y < S ∧ (quS t f x n s).2 50 j = nI y) ∧ ∀ k j, k ≠ 50 → (quS t f x n s).2 k j = s k j := by
  intro f
  induction f with
  | zero => intro x n s h1 h2 h3; exact ⟨by rw [quS]; simp only; omega, h3, fun _ _ _ => rfl⟩
  | succ f ih =>
    intro x n s h1 h2 h3
    rw [quS]
    split
    · obtain ⟨a, b, c⟩ := ih (x + 1) (n + 1) (qiS x n s) (by omega) (by omega) (qiS_in x n S s (by omega) h3)
      exact ⟨a, b, fun k j hk => (c k j hk).trans (qiS_o _ _ _ hk _)⟩
    · exact ih (x + 1) n s (by omega) (by omega) h3
theorem lp_queue {t : Int32} {S : Nat} (hm : g.1 ≤ m0) (hS : S ≤ 400) : ∀ (f x n : Nat) (s : mS) (a4 : Option Value), x + f = S → n ≤ x → s 19 0 = nI S → (∀ j, j < n → ∃ y, y < S ∧ s 50 j = nI y) → Ev g 139 4 [some (.ref m0), some (.int t), some (.int (nI n)), some (.int (nI x)), a4] [] (mput m0 s h) (.inl (some (.int (nI (quS t f x n s).1))), mput m0 (quS t f x n s).2 h) := by
  intro f
  induction f with
  | zero =>
    intro x n s a4 h1 h2 h3 h4
    have h2 : nI S ≤ nI x := nI_le (by omega) (by omega)
    rw [e_X10_queue_4 rfl]
    simp only [e_X10_queue_5, e_X10_queue_6, e_X10_queue_9, e_X10_queue_12, e_X10_queue_13, e_X10_queue_16, e_X10_queue_17, e_X10_queue_18, e_X10_queue_21, e_X10_queue_22, e_X10_queue_25, e_X10_queue_26, e_X10_queue_27, e_X10_queue_28, e_X10_queue_31, e_X10_queue_34, e_X10_queue_35, e_X10_queue_95, e_X10_queue_98, e_X10_queue_101, e_X10_queue_104, e_X10_queue_105, mO, mg_19, mp_19, mg_26, mr_26, mA_26, ml_26, me_26, mp_26, mg_23, mr_23, mA_23, ml_23, me_23, mp_23, mg_21, mr_21, mA_21, ml_21, me_21, mp_21, mg_50, mr_50, mA_50, ml_50, me_50, mp_50, nem, su_get, z1e0, z2e0, z3e0, z4e0, z5e0, z0e1, zme0, Nat.reduceEqDiff, not_true_eq_false, and_self, false_or, or_false, or_self,  bI_eq0, bI_eq1, i10, i20, i30, i00, ne_eq, Decidable.not_not, true_and, and_true, false_and, and_false, xrd_ref, xrd_null, xrd_rf, xid_int, xcat_int, xcat_ref, xcat_null, xcat_long, xcat_rf, xfit_int, xfit_0, xfit_1, xfit_ref, xfit_null, xfit_rf, not_false_eq_true, ↓reduceIte, z01_0, z01_1, bI_01, true_or, or_true, h3, h2, quS]
  | succ f ih =>
    intro x n s a4 h1 h2 h3 h4
    have h5 : ¬ nI S ≤ nI x := nI_ge (by omega) (by omega)
    have hn_x : ¬ nI x < 0 := nI_pos (by omega)
    have hc_x : (nI x).toNatClampNeg = x := nI_clamp (by omega)
    have hb_x : ¬ 400 ≤ x := by omega
    rw [e_X10_queue_4 rfl, quS]
    by_cases a : s 26 x = 0
    · by_cases b : s 23 x ≤ t
      · rw [if_pos ⟨a, b⟩]
        have k := ih (x + 1) (n + 1) (qiS x n s)
        have k2 := fun out => lp_qi (g := g) (m0 := m0) (h := h) (t := t) (n := nI n) (out := out) hm (show x < S by omega) hS n s (by omega) h4
        simp only [e_X10_queue_5, e_X10_queue_6, e_X10_queue_9, e_X10_queue_12, e_X10_queue_13, e_X10_queue_16, e_X10_queue_17, e_X10_queue_18, e_X10_queue_21, e_X10_queue_22, e_X10_queue_25, e_X10_queue_26, e_X10_queue_27, e_X10_queue_28, e_X10_queue_31, e_X10_queue_34, e_X10_queue_35, mO, mg_19, mp_19, mg_26, mr_26, mA_26, ml_26, me_26, mp_26, mg_23, mr_23, mA_23, ml_23, me_23, mp_23, mg_21, mr_21, mA_21, ml_21, me_21, mp_21, mg_50, mr_50, mA_50, ml_50, me_50, mp_50, nem, su_get, z1e0, z2e0, z3e0, z4e0, z5e0, z0e1, zme0, Nat.reduceEqDiff, not_true_eq_false, and_self, false_or, or_false, or_self,  bI_eq0, bI_eq1, i10, i20, i30, i00, ne_eq, Decidable.not_not, true_and, and_true, false_and, and_false, xrd_ref, xrd_null, xrd_rf, xid_int, xcat_int, xcat_ref, xcat_null, xcat_long, xcat_rf, xfit_int, xfit_0, xfit_1, xfit_ref, xfit_null, xfit_rf, not_false_eq_true, ↓reduceIte, z01_0, z01_1, bI_01, true_or, or_true, h3, h5, hn_x, hc_x, hb_x, a, b]
        apply k2
        intro a4
        simp only [e_X10_queue_95, e_X10_queue_98, e_X10_queue_101, e_X10_queue_104, e_X10_queue_105, nem, su_get, z1e0, z2e0, z3e0, z4e0, z5e0, z0e1, zme0, Nat.reduceEqDiff, not_true_eq_false, and_self, false_or, or_false, or_self,  bI_eq0, bI_eq1, i10, i20, i30, i00, ne_eq, Decidable.not_not, true_and, and_true, false_and, and_false, xrd_ref, xrd_null, xrd_rf, xid_int, xcat_int, xcat_ref, xcat_null, xcat_long, xcat_rf, xfit_int, xfit_0, xfit_1, xfit_ref, xfit_null, xfit_rf, not_false_eq_true, ↓reduceIte, z01_0, z01_1, bI_01, true_or, or_true, nI_1]
        exact k a4 (by omega) (by omega) (by rw [qiS_o _ _ _ (by decide)]; exact h3) (qiS_in x n S s (by omega) h4)
      · rw [if_neg (fun q => b q.2)]
        have k := ih (x + 1) n s a4 (by omega) (by omega) h3 h4
        simp only [e_X10_queue_5, e_X10_queue_6, e_X10_queue_9, e_X10_queue_12, e_X10_queue_13, e_X10_queue_16, e_X10_queue_17, e_X10_queue_18, e_X10_queue_21, e_X10_queue_22, e_X10_queue_25, e_X10_queue_26, e_X10_queue_27, e_X10_queue_28, e_X10_queue_31, e_X10_queue_34, e_X10_queue_35, e_X10_queue_95, e_X10_queue_98, e_X10_queue_101, e_X10_queue_104, e_X10_queue_105, mO, mg_19, mp_19, mg_26, mr_26, mA_26, ml_26, me_26, mp_26, mg_23, mr_23, mA_23, ml_23, me_23, mp_23, mg_21, mr_21, mA_21, ml_21, me_21, mp_21, mg_50, mr_50, mA_50, ml_50, me_50, mp_50, nem, su_get, z1e0, z2e0, z3e0, z4e0, z5e0, z0e1, zme0, Nat.reduceEqDiff, not_true_eq_false, and_self, false_or, or_false, or_self,  bI_eq0, bI_eq1, i10, i20, i30, i00, ne_eq, Decidable.not_not, true_and, and_true, false_and, and_false, xrd_ref, xrd_null, xrd_rf, xid_int, xcat_int, xcat_ref, xcat_null, xcat_long, xcat_rf, xfit_int, xfit_0, xfit_1, xfit_ref, xfit_null, xfit_rf, not_false_eq_true, ↓reduceIte, z01_0, z01_1, bI_01, true_or, or_true, h3, h5, hn_x, hc_x, hb_x, a, b, nI_1, k]
    · rw [if_neg (fun q => a q.1)]
      have k := ih (x + 1) n s a4 (by omega) (by omega) h3 h4
      simp only [e_X10_queue_5, e_X10_queue_6, e_X10_queue_9, e_X10_queue_12, e_X10_queue_13, e_X10_queue_16, e_X10_queue_17, e_X10_queue_18, e_X10_queue_21, e_X10_queue_22, e_X10_queue_25, e_X10_queue_26, e_X10_queue_27, e_X10_queue_28, e_X10_queue_31, e_X10_queue_34, e_X10_queue_35, e_X10_queue_95, e_X10_queue_98, e_X10_queue_101, e_X10_queue_104, e_X10_queue_105, mO, mg_19, mp_19, mg_26, mr_26, mA_26, ml_26, me_26, mp_26, mg_23, mr_23, mA_23, ml_23, me_23, mp_23, mg_21, mr_21, mA_21, ml_21, me_21, mp_21, mg_50, mr_50, mA_50, ml_50, me_50, mp_50, nem, su_get, z1e0, z2e0, z3e0, z4e0, z5e0, z0e1, zme0, Nat.reduceEqDiff, not_true_eq_false, and_self, false_or, or_false, or_self,  bI_eq0, bI_eq1, i10, i20, i30, i00, ne_eq, Decidable.not_not, true_and, and_true, false_and, and_false, xrd_ref, xrd_null, xrd_rf, xid_int, xcat_int, xcat_ref, xcat_null, xcat_long, xcat_rf, xfit_int, xfit_0, xfit_1, xfit_ref, xfit_null, xfit_rf, not_false_eq_true, ↓reduceIte, z01_0, z01_1, bI_01, true_or, or_true, h3, h5, hn_x, hc_x, hb_x, a, nI_1, k]
theorem md_queue {t : Int32} {S : Nat} (hm : g.1 ≤ m0) (hS : S ≤ 400) (hs : s 19 0 = nI S) : Ev g 139 0 [some (.ref m0), some (.int t), none, none, none] [] (mput m0 s h) (.inl (some (.int (nI (quS t S 0 0 s).1))), mput m0 (quS t S 0 0 s).2 h) := by
  have := lp_queue (g := g) (m0 := m0) (h := h) (t := t) hm hS S 0 0 s none (by omega) (by omega) hs (fun j hj => by omega)
  rw [nI_0] at this
  simp only [e_X10_queue_0, e_X10_queue_1, e_X10_queue_2, e_X10_queue_3, nem, su_get, z1e0, z2e0, z3e0, z4e0, z5e0, z0e1, zme0, Nat.reduceEqDiff, not_true_eq_false, and_self, false_or, or_false, or_self,  bI_eq0, bI_eq1, i10, i20, i30, i00, ne_eq, Decidable.not_not, true_and, and_true, false_and, and_false, xrd_ref, xrd_null, xrd_rf, xid_int, xcat_int, xcat_ref, xcat_null, xcat_long, xcat_rf, xfit_int, xfit_0, xfit_1, xfit_ref, xfit_null, xfit_rf, not_false_eq_true, ↓reduceIte, z01_0, z01_1, bI_01, true_or, or_true, this]
/-! going back -/
def gbB (s : mS) : Nat → Nat → Int32 → Int32
  | 0, _, b => b
  | f + 1, p, b => if s 8 p = 1 ∧ (b = -1 ∨ s 9 p < s 9 b.toNatClampNeg) then gbB s f (p + 1) (nI p) else gbB s f (p + 1) b
theorem gbB_in (s : mS) (P : Nat) : ∀ (f p : Nat) (b : Int32), p + f = P → (b = -1 ∨ ∃ q, q < P ∧ b = nI q) → (gbB s f p b = -1 ∨ ∃ q, q < P ∧ gbB s f p b = nI q) := by
  intro f
  induction f with
  | zero => intro p b _ hb; exact hb
  | succ f ih =>
    intro p b hp hb
    rw [gbB]
    split
    · exact ih _ _ (by omega) (Or.inr ⟨p, by omega, rfl⟩)
    · exact ih _ _ (by omega) hb
def gbS (P : Nat) : Nat → mS → mS
  | 0, s => s
  | n + 1, s => gbS P n (if gbB s P 0 (-1) = -1 then s else su s 8 (gbB s P 0 (-1)).toNatClampNeg 0)
theorem lp_gb {M k : Int32} {P : Nat} {out : xR} (hP : P ≤ 60) (hs : s 2 0 = nI P) : ∀ (f p : Nat) (b : Int32), p + f = P → (b = -1 ∨ ∃ q, q < P ∧ b = nI q) → (Ev g 146 12 [some (.ref m0), some (.int M), some (.int k), some (.int b), some (.int (nI p))] [] (mput m0 s h) out = Ev g 146 62 [some (.ref m0), some (.int M), some (.int k), some (.int (gbB s f p b)), some (.int (nI P))] [] (mput m0 s h) out) := by
  intro f
  induction f with
  | zero =>
    intro p b hp hb
    have h2 : nI P ≤ nI p := nI_le (by omega) (by omega)
    have : p = P := by omega
    subst this
    rw [e_X10_goBack_12 rfl]
    simp only [e_X10_goBack_14, e_X10_goBack_15, e_X10_goBack_18, e_X10_goBack_21, e_X10_goBack_22, e_X10_goBack_25, e_X10_goBack_27, e_X10_goBack_28, e_X10_goBack_29, e_X10_goBack_32, e_X10_goBack_33, e_X10_goBack_34, e_X10_goBack_37, e_X10_goBack_38, e_X10_goBack_41, e_X10_goBack_43, e_X10_goBack_44, e_X10_goBack_45, e_X10_goBack_48, e_X10_goBack_49, e_X10_goBack_50, e_X10_goBack_53, e_X10_goBack_55, e_X10_goBack_56, e_X10_goBack_59, mO, mg_2, mp_2, mg_8, mr_8, mA_8, ml_8, me_8, mp_8, mg_9, mr_9, mA_9, ml_9, me_9, mp_9, nem, su_get, z1e0, z2e0, z3e0, z4e0, z5e0, z0e1, zme0, Nat.reduceEqDiff, not_true_eq_false, and_self, false_or, or_false, or_self,  bI_eq0, bI_eq1, i10, i20, i30, i00, ne_eq, Decidable.not_not, true_and, and_true, false_and, and_false, xrd_ref, xrd_null, xrd_rf, xid_int, xcat_int, xcat_ref, xcat_null, xcat_long, xcat_rf, xfit_int, xfit_0, xfit_1, xfit_ref, xfit_null, xfit_rf, not_false_eq_true, ↓reduceIte, z01_0, z01_1, bI_01, true_or, or_true, hs, h2, gbB]
  | succ f ih =>
    intro p b hp hb
    have h2 : ¬ nI P ≤ nI p := nI_ge (by omega) (by omega)
    have hn_p : ¬ nI p < 0 := nI_pos (by omega)
    have hc_p : (nI p).toNatClampNeg = p := nI_clamp (by omega)
    have hb_p : ¬ 60 ≤ p := by omega
    rw [e_X10_goBack_12 rfl, gbB]
    have i1 := ih (p + 1) (nI p) (by omega) (Or.inr ⟨p, by omega, rfl⟩)
    have i2 := ih (p + 1) b (by omega) hb
    by_cases a : s 8 p = 1
    · rcases hb with e | ⟨q, hq, e⟩
      · subst e
        simp only [e_X10_goBack_14, e_X10_goBack_15, e_X10_goBack_18, e_X10_goBack_21, e_X10_goBack_22, e_X10_goBack_25, e_X10_goBack_27, e_X10_goBack_28, e_X10_goBack_29, e_X10_goBack_32, e_X10_goBack_33, e_X10_goBack_34, e_X10_goBack_37, e_X10_goBack_38, e_X10_goBack_41, e_X10_goBack_43, e_X10_goBack_44, e_X10_goBack_45, e_X10_goBack_48, e_X10_goBack_49, e_X10_goBack_50, e_X10_goBack_53, e_X10_goBack_55, e_X10_goBack_56, e_X10_goBack_59, mO, mg_2, mp_2, mg_8, mr_8, mA_8, ml_8, me_8, mp_8, mg_9, mr_9, mA_9, ml_9, me_9, mp_9, nem, su_get, z1e0, z2e0, z3e0, z4e0, z5e0, z0e1, zme0, Nat.reduceEqDiff, not_true_eq_false, and_self, false_or, or_false, or_self,  bI_eq0, bI_eq1, i10, i20, i30, i00, ne_eq, Decidable.not_not, true_and, and_true, false_and, and_false, xrd_ref, xrd_null, xrd_rf, xid_int, xcat_int, xcat_ref, xcat_null, xcat_long, xcat_rf, xfit_int, xfit_0, xfit_1, xfit_ref, xfit_null, xfit_rf, not_false_eq_true, ↓reduceIte, z01_0, z01_1, bI_01, true_or, or_true, hs, h2, hn_p, hc_p, hb_p, a, nI_1, i1]
      · subst e
        have hn_q : ¬ nI q < 0 := nI_pos (by omega)
        have hc_q : (nI q).toNatClampNeg = q := nI_clamp (by omega)
        have hb_q : ¬ 60 ≤ q := by omega
        have e : ¬ nI q = -1 := nI_nm (by omega)
        by_cases c : s 9 p < s 9 q
        · have c' : ¬ s 9 q ≤ s 9 p := Int32.not_le.mpr c
          simp only [e_X10_goBack_14, e_X10_goBack_15, e_X10_goBack_18, e_X10_goBack_21, e_X10_goBack_22, e_X10_goBack_25, e_X10_goBack_27, e_X10_goBack_28, e_X10_goBack_29, e_X10_goBack_32, e_X10_goBack_33, e_X10_goBack_34, e_X10_goBack_37, e_X10_goBack_38, e_X10_goBack_41, e_X10_goBack_43, e_X10_goBack_44, e_X10_goBack_45, e_X10_goBack_48, e_X10_goBack_49, e_X10_goBack_50, e_X10_goBack_53, e_X10_goBack_55, e_X10_goBack_56, e_X10_goBack_59, mO, mg_2, mp_2, mg_8, mr_8, mA_8, ml_8, me_8, mp_8, mg_9, mr_9, mA_9, ml_9, me_9, mp_9, nem, su_get, z1e0, z2e0, z3e0, z4e0, z5e0, z0e1, zme0, Nat.reduceEqDiff, not_true_eq_false, and_self, false_or, or_false, or_self,  bI_eq0, bI_eq1, i10, i20, i30, i00, ne_eq, Decidable.not_not, true_and, and_true, false_and, and_false, xrd_ref, xrd_null, xrd_rf, xid_int, xcat_int, xcat_ref, xcat_null, xcat_long, xcat_rf, xfit_int, xfit_0, xfit_1, xfit_ref, xfit_null, xfit_rf, not_false_eq_true, ↓reduceIte, z01_0, z01_1, bI_01, true_or, or_true, hs, h2, hn_p, hc_p, hb_p, hn_q, hc_q, hb_q, a, e, c, c', nI_1, i1]
        · have c' : s 9 q ≤ s 9 p := Int32.not_lt.mp c
          simp only [e_X10_goBack_14, e_X10_goBack_15, e_X10_goBack_18, e_X10_goBack_21, e_X10_goBack_22, e_X10_goBack_25, e_X10_goBack_27, e_X10_goBack_28, e_X10_goBack_29, e_X10_goBack_32, e_X10_goBack_33, e_X10_goBack_34, e_X10_goBack_37, e_X10_goBack_38, e_X10_goBack_41, e_X10_goBack_43, e_X10_goBack_44, e_X10_goBack_45, e_X10_goBack_48, e_X10_goBack_49, e_X10_goBack_50, e_X10_goBack_53, e_X10_goBack_55, e_X10_goBack_56, e_X10_goBack_59, mO, mg_2, mp_2, mg_8, mr_8, mA_8, ml_8, me_8, mp_8, mg_9, mr_9, mA_9, ml_9, me_9, mp_9, nem, su_get, z1e0, z2e0, z3e0, z4e0, z5e0, z0e1, zme0, Nat.reduceEqDiff, not_true_eq_false, and_self, false_or, or_false, or_self,  bI_eq0, bI_eq1, i10, i20, i30, i00, ne_eq, Decidable.not_not, true_and, and_true, false_and, and_false, xrd_ref, xrd_null, xrd_rf, xid_int, xcat_int, xcat_ref, xcat_null, xcat_long, xcat_rf, xfit_int, xfit_0, xfit_1, xfit_ref, xfit_null, xfit_rf, not_false_eq_true, ↓reduceIte, z01_0, z01_1, bI_01, true_or, or_true, hs, h2, hn_p, hc_p, hb_p, hn_q, hc_q, hb_q, a, e, c, c', nI_1, i2]
    · simp only [e_X10_goBack_14, e_X10_goBack_15, e_X10_goBack_18, e_X10_goBack_21, e_X10_goBack_22, e_X10_goBack_25, e_X10_goBack_27, e_X10_goBack_28, e_X10_goBack_29, e_X10_goBack_32, e_X10_goBack_33, e_X10_goBack_34, e_X10_goBack_37, e_X10_goBack_38, e_X10_goBack_41, e_X10_goBack_43, e_X10_goBack_44, e_X10_goBack_45, e_X10_goBack_48, e_X10_goBack_49, e_X10_goBack_50, e_X10_goBack_53, e_X10_goBack_55, e_X10_goBack_56, e_X10_goBack_59, mO, mg_2, mp_2, mg_8, mr_8, mA_8, ml_8, me_8, mp_8, mg_9, mr_9, mA_9, ml_9, me_9, mp_9, nem, su_get, z1e0, z2e0, z3e0, z4e0, z5e0, z0e1, zme0, Nat.reduceEqDiff, not_true_eq_false, and_self, false_or, or_false, or_self,  bI_eq0, bI_eq1, i10, i20, i30, i00, ne_eq, Decidable.not_not, true_and, and_true, false_and, and_false, xrd_ref, xrd_null, xrd_rf, xid_int, xcat_int, xcat_ref, xcat_null, xcat_long, xcat_rf, xfit_int, xfit_0, xfit_1, xfit_ref, xfit_null, xfit_rf, not_false_eq_true, ↓reduceIte, z01_0, z01_1, bI_01, true_or, or_true, hs, h2, hn_p, hc_p, hb_p, a, nI_1, i2]
theorem lp_goBack {N P : Nat} (hm : g.1 ≤ m0) (hP : P ≤ 60) (hN : N < 2 ^ 31) : ∀ (f k : Nat) (s : mS) (a3 a4 : Option Value), k + f = N → s 2 0 = nI P → Ev g 146 2 [some (.ref m0), some (.int (nI N)), some (.int (nI k)), a3, a4] [] (mput m0 s h) (.inl none, mput m0 (gbS P f s) h) := by
  intro f
  induction f with
  | zero =>
    intro k s a3 a4 hk hs
    have h2 : nI N ≤ nI k := nI_le (by omega) (by omega)
    rw [e_X10_goBack_2 rfl]
    simp only [e_X10_goBack_3, e_X10_goBack_4, e_X10_goBack_7, e_X10_goBack_8, e_X10_goBack_9, e_X10_goBack_10, e_X10_goBack_62, e_X10_goBack_63, e_X10_goBack_64, e_X10_goBack_67, e_X10_goBack_68, e_X10_goBack_71, e_X10_goBack_72, e_X10_goBack_73, e_X10_goBack_74, e_X10_goBack_77, e_X10_goBack_80, nem, su_get, z1e0, z2e0, z3e0, z4e0, z5e0, z0e1, zme0, Nat.reduceEqDiff, not_true_eq_false, and_self, false_or, or_false, or_self,  bI_eq0, bI_eq1, i10, i20, i30, i00, ne_eq, Decidable.not_not, true_and, and_true, false_and, and_false, xrd_ref, xrd_null, xrd_rf, xid_int, xcat_int, xcat_ref, xcat_null, xcat_long, xcat_rf, xfit_int, xfit_0, xfit_1, xfit_ref, xfit_null, xfit_rf, not_false_eq_true, ↓reduceIte, z01_0, z01_1, bI_01, true_or, or_true, h2, gbS]
  | succ f ih =>
    intro k s a3 a4 hk hs
    have h2 : ¬ nI N ≤ nI k := nI_ge (by omega) (by omega)
    have l := fun out => lp_gb (g := g) (m0 := m0) (h := h) (M := nI N) (k := nI k) (out := out) hP hs P 0 (-1) (by omega) (Or.inl rfl)
    rw [nI_0] at l
    rw [e_X10_goBack_2 rfl, gbS]
    simp only [e_X10_goBack_3, e_X10_goBack_4, e_X10_goBack_7, e_X10_goBack_8, e_X10_goBack_9, e_X10_goBack_10, nem, su_get, z1e0, z2e0, z3e0, z4e0, z5e0, z0e1, zme0, Nat.reduceEqDiff, not_true_eq_false, and_self, false_or, or_false, or_self,  bI_eq0, bI_eq1, i10, i20, i30, i00, ne_eq, Decidable.not_not, true_and, and_true, false_and, and_false, xrd_ref, xrd_null, xrd_rf, xid_int, xcat_int, xcat_ref, xcat_null, xcat_long, xcat_rf, xfit_int, xfit_0, xfit_1, xfit_ref, xfit_null, xfit_rf, not_false_eq_true, ↓reduceIte, z01_0, z01_1, bI_01, true_or, or_true, h2, l]
    rcases gbB_in s P P 0 (-1) (by omega) (Or.inl rfl) with e | ⟨q, hq, e⟩
    · rw [e]
      have i1 := fun a3 a4 => ih (k + 1) s a3 a4 (by omega) hs
      simp only [e_X10_goBack_62, e_X10_goBack_63, e_X10_goBack_64, e_X10_goBack_67, e_X10_goBack_68, e_X10_goBack_71, e_X10_goBack_72, e_X10_goBack_73, e_X10_goBack_74, e_X10_goBack_77, e_X10_goBack_80, nem, su_get, z1e0, z2e0, z3e0, z4e0, z5e0, z0e1, zme0, Nat.reduceEqDiff, not_true_eq_false, and_self, false_or, or_false, or_self,  bI_eq0, bI_eq1, i10, i20, i30, i00, ne_eq, Decidable.not_not, true_and, and_true, false_and, and_false, xrd_ref, xrd_null, xrd_rf, xid_int, xcat_int, xcat_ref, xcat_null, xcat_long, xcat_rf, xfit_int, xfit_0, xfit_1, xfit_ref, xfit_null, xfit_rf, not_false_eq_true, ↓reduceIte, z01_0, z01_1, bI_01, true_or, or_true, nI_1, i1]
    · rw [e]
      have hn_q : ¬ nI q < 0 := nI_pos (by omega)
      have hc_q : (nI q).toNatClampNeg = q := nI_clamp (by omega)
      have hb_q : ¬ 60 ≤ q := by omega
      have e : ¬ nI q = -1 := nI_nm (by omega)
      have i1 := fun a3 a4 => ih (k + 1) (su s 8 q 0) a3 a4 (by omega) (by rw [su_other _ _ (by decide)]; exact hs)
      simp only [e_X10_goBack_62, e_X10_goBack_63, e_X10_goBack_64, e_X10_goBack_67, e_X10_goBack_68, e_X10_goBack_71, e_X10_goBack_72, e_X10_goBack_73, e_X10_goBack_74, e_X10_goBack_77, e_X10_goBack_80, mO, mg_2, mp_2, mg_8, mr_8, mA_8, ml_8, me_8, mp_8, mg_9, mr_9, mA_9, ml_9, me_9, mp_9, nem, su_get, z1e0, z2e0, z3e0, z4e0, z5e0, z0e1, zme0, Nat.reduceEqDiff, not_true_eq_false, and_self, false_or, or_false, or_self,  bI_eq0, bI_eq1, i10, i20, i30, i00, ne_eq, Decidable.not_not, true_and, and_true, false_and, and_false, xrd_ref, xrd_null, xrd_rf, xid_int, xcat_int, xcat_ref, xcat_null, xcat_long, xcat_rf, xfit_int, xfit_0, xfit_1, xfit_ref, xfit_null, xfit_rf, not_false_eq_true, ↓reduceIte, z01_0, z01_1, bI_01, true_or, or_true, hn_q, hc_q, hb_q, e, nI_1, hm, hmk hm, i1]
theorem md_goBack {N P : Nat} (hm : g.1 ≤ m0) (hP : P ≤ 60) (hN : N < 2 ^ 31) (hs : s 2 0 = nI P) : Ev g 146 0 [some (.ref m0), some (.int (nI N)), none, none, none] [] (mput m0 s h) (.inl none, mput m0 (gbS P N s) h) := by
  have := lp_goBack (g := g) (m0 := m0) (h := h) hm hP hN N 0 s none none (by omega) hs
  rw [nI_0] at this
  simp only [e_X10_goBack_0, e_X10_goBack_1, nem, su_get, z1e0, z2e0, z3e0, z4e0, z5e0, z0e1, zme0, Nat.reduceEqDiff, not_true_eq_false, and_self, false_or, or_false, or_self,  bI_eq0, bI_eq1, i10, i20, i30, i00, ne_eq, Decidable.not_not, true_and, and_true, false_and, and_false, xrd_ref, xrd_null, xrd_rf, xid_int, xcat_int, xcat_ref, xcat_null, xcat_long, xcat_rf, xfit_int, xfit_0, xfit_1, xfit_ref, xfit_null, xfit_rf, not_false_eq_true, ↓reduceIte, z01_0, z01_1, bI_01, true_or, or_true, this]
/-! the end of a duty -/
def ntS : Nat → Nat → Int32 → Int32
  | 0, _, b => b
  | f + 1, t, b => ntS f (t + 1) (if ¬ b = 0 then 1 else bI (nI t - nI t / 24 * 24 < 6 ∨ 21 < nI t - nI t / 24 * 24))
theorem lp_night {p x c : Int32} {W E : Nat} {out : xR} (hE : E < 2 ^ 31) : ∀ (f t : Nat) (b : Int32), t + f = E → Ev g 148 31 [some (.ref m0), some (.int p), some (.int x), some (.int c), some (.int (nI E)), some (.int b), some (.int (nI t))] [] (mput m0 s h) out = Ev g 148 64 [some (.ref m0), some (.int p), some (.int x), some (.int c), some (.int (nI E)), some (.int (ntS f t b)), some (.int (nI E))] [] (mput m0 s h) out := by
  intro f
  induction f with
  | zero =>
    intro t b ht
    have h2 : nI E ≤ nI t := nI_le (by omega) (by omega)
    have : t = E := by omega
    subst this
    rw [e_X10_through_31 rfl]
    simp only [e_X10_through_33, e_X10_through_35, e_X10_through_38, e_X10_through_40, e_X10_through_43, e_X10_through_48, e_X10_through_51, e_X10_through_52, e_X10_through_55, e_X10_through_56, e_X10_through_58, e_X10_through_61, nem, su_get, z1e0, z2e0, z3e0, z4e0, z5e0, z0e1, zme0, Nat.reduceEqDiff, not_true_eq_false, and_self, false_or, or_false, or_self,  bI_eq0, bI_eq1, i10, i20, i30, i00, ne_eq, Decidable.not_not, true_and, and_true, false_and, and_false, xrd_ref, xrd_null, xrd_rf, xid_int, xcat_int, xcat_ref, xcat_null, xcat_long, xcat_rf, xfit_int, xfit_0, xfit_1, xfit_ref, xfit_null, xfit_rf, not_false_eq_true, ↓reduceIte, z01_0, z01_1, bI_01, true_or, or_true, h2, ntS]
  | succ f ih =>
    intro t b ht
    have h2 : ¬ nI E ≤ nI t := nI_ge (by omega) (by omega)
    have i1 := fun b => ih (t + 1) b (by omega)
    rw [e_X10_through_31 rfl, ntS]
    by_cases a : b = 0
    · by_cases d : nI t - nI t / 24 * 24 < 6 ∨ 21 < nI t - nI t / 24 * 24
      · simp only [e_X10_through_33, e_X10_through_35, e_X10_through_38, e_X10_through_40, e_X10_through_43, e_X10_through_48, e_X10_through_51, e_X10_through_52, e_X10_through_55, e_X10_through_56, e_X10_through_58, e_X10_through_61, c_X10_through_45 md_isNight, nem, su_get, z1e0, z2e0, z3e0, z4e0, z5e0, z0e1, zme0, Nat.reduceEqDiff, not_true_eq_false, and_self, false_or, or_false, or_self,  bI_eq0, bI_eq1, i10, i20, i30, i00, ne_eq, Decidable.not_not, true_and, and_true, false_and, and_false, xrd_ref, xrd_null, xrd_rf, xid_int, xcat_int, xcat_ref, xcat_null, xcat_long, xcat_rf, xfit_int, xfit_0, xfit_1, xfit_ref, xfit_null, xfit_rf, not_false_eq_true, ↓reduceIte, z01_0, z01_1, bI_01, true_or, or_true, h2, a, d, nI_1, i1, bI]
      · simp only [e_X10_through_33, e_X10_through_35, e_X10_through_38, e_X10_through_40, e_X10_through_43, e_X10_through_48, e_X10_through_51, e_X10_through_52, e_X10_through_55, e_X10_through_56, e_X10_through_58, e_X10_through_61, c_X10_through_45 md_isNight, nem, su_get, z1e0, z2e0, z3e0, z4e0, z5e0, z0e1, zme0, Nat.reduceEqDiff, not_true_eq_false, and_self, false_or, or_false, or_self,  bI_eq0, bI_eq1, i10, i20, i30, i00, ne_eq, Decidable.not_not, true_and, and_true, false_and, and_false, xrd_ref, xrd_null, xrd_rf, xid_int, xcat_int, xcat_ref, xcat_null, xcat_long, xcat_rf, xfit_int, xfit_0, xfit_1, xfit_ref, xfit_null, xfit_rf, not_false_eq_true, ↓reduceIte, z01_0, z01_1, bI_01, true_or, or_true, h2, a, d, nI_1, i1, bI]
    · simp only [e_X10_through_33, e_X10_through_35, e_X10_through_38, e_X10_through_40, e_X10_through_43, e_X10_through_48, e_X10_through_51, e_X10_through_52, e_X10_through_55, e_X10_through_56, e_X10_through_58, e_X10_through_61, nem, su_get, z1e0, z2e0, z3e0, z4e0, z5e0, z0e1, zme0, Nat.reduceEqDiff, not_true_eq_false, and_self, false_or, or_false, or_self,  bI_eq0, bI_eq1, i10, i20, i30, i00, ne_eq, Decidable.not_not, true_and, and_true, false_and, and_false, xrd_ref, xrd_null, xrd_rf, xid_int, xcat_int, xcat_ref, xcat_null, xcat_long, xcat_rf, xfit_int, xfit_0, xfit_1, xfit_ref, xfit_null, xfit_rf, not_false_eq_true, ↓reduceIte, z01_0, z01_1, bI_01, true_or, or_true, h2, a, nI_1, i1]
end MD
