/-! ===== lists: get, size, remove, insert, clear ===== -/
def rmv (f : Nat → Value) (n i : Nat) : Nat → Value := updV (if i < n - 1 then va_cpy f f (i + 1) i (n - 1 - i) else f) (n - 1) .null
theorem rmv_lC {f : Nat → Value} {n i : Nat} (hi : i < n) : rmv (lC n f) n i = lC (n - 1) (fun j => if j < i then f j else f (j + 1)) := by
  funext j
  unfold rmv
  by_cases a : j = n - 1
  · subst a; simp [updV, lC]
  · have e1 : updV (if i < n - 1 then va_cpy (lC n f) (lC n f) (i + 1) i (n - 1 - i) else lC n f) (n - 1) Value.null j = (if i < n - 1 then va_cpy (lC n f) (lC n f) (i + 1) i (n - 1 - i) else lC n f) j := by simp [updV, a]
    rw [e1]
    by_cases b : i < n - 1
    · rw [if_pos b]
      simp only [va_cpy, lC]
      by_cases c : i ≤ j ∧ j < i + (n - 1 - i)
      · rw [if_pos c, if_pos (by omega), if_pos (by omega), if_neg (by omega)]
        congr 1; omega
      · rw [if_neg c]
        by_cases d : j < i
        · rw [if_pos (by omega), if_pos (by omega), if_pos d]
        · rw [if_neg (by omega), if_neg (by omega)]
    · rw [if_neg b]
      simp only [lC]
      by_cases d : j < i
      · rw [if_pos (by omega), if_pos (by omega), if_pos d]
      · rw [if_neg (by omega), if_neg (by omega)]
theorem ins_lC {f : Nat → Value} {n i : Nat} {v : Value} (hi : i ≤ n) : updV (va_cpy (lC n f) (lC n f) i (i + 1) (n - i)) i v = lC (n + 1) (fun j => if j < i then f j else if j = i then v else f (j - 1)) := by
  funext j
  by_cases a : j = i
  · subst a
    simp only [updV, lC, if_true]
    rw [if_pos (by omega), if_neg (by omega)]
  · have e1 : updV (va_cpy (lC n f) (lC n f) i (i + 1) (n - i)) i v j = va_cpy (lC n f) (lC n f) i (i + 1) (n - i) j := by simp [updV, a]
    rw [e1]
    simp only [va_cpy, lC]
    by_cases c : i + 1 ≤ j ∧ j < i + 1 + (n - i)
    · rw [if_pos c, if_pos (by omega), if_pos (by omega), if_neg (by omega), if_neg a]
      congr 1; omega
    · rw [if_neg c]
      by_cases d : j < i
      · rw [if_pos (by omega), if_pos (by omega), if_pos d]
      · rw [if_neg (by omega), if_neg (by omega)]
theorem app_lC {f : Nat → Value} {n : Nat} {v : Value} : updV (lC n f) n v = lC (n + 1) (fun j => if j = n then v else f j) := by
  funext j
  by_cases a : j = n
  · subst a; simp [updV, lC]
  · simp only [updV, lC, if_neg a]
    by_cases c : j < n
    · rw [if_pos c, if_pos (by omega)]
    · rw [if_neg c, if_neg (by omega)]
theorem lC_lC {f : Nat → Value} {n : Nat} : lC n (lC n f) = lC n f := by
  funext j
  simp only [lC]
  by_cases c : j < n <;> simp [c]
theorem lC_0 {f : Nat → Value} : lC 0 f = fun _ => .null := by
  funext j
  simp [lC]
section JH
variable {g : Nat × Nat × Nat} {H : xH}
theorem jl_size {a e c : Nat} {m k : Int32} {f : Nat → Value} : Ev g 3 0 [some (.ref a)] [] (lp H a e m e k c f) (.inl (some (.int k)), lp H a e m e k c f) := by
  simp only [e_Jx4a65c_size_8abf5_0, e_Jx4a65c_size_8abf5_1, e_Jx4a65c_size_8abf5_4, nem, su_get, z1e0, z2e0, z3e0, z4e0, z5e0, z0e1, zme0, Nat.reduceEqDiff, not_true_eq_false, and_self, false_or, or_false, or_self,  bI_eq0, bI_eq1, i10, i20, i30, i00, ne_eq, Decidable.not_not, true_and, and_true, false_and, and_false, xrd_ref, xrd_null, xrd_rf, xid_int, xcat_int, xcat_ref, xcat_null, xcat_long, xcat_rf, xfit_int, xfit_0, xfit_1, xfit_ref, xfit_null, xfit_rf, not_false_eq_true, ↓reduceIte, z01_0, z01_1, bI_01, true_or, or_true, lp_O, lp_g2]
theorem jl_get {a e n c i : Nat} {m : Int32} {f : Nat → Value} (ne : e ≠ a) (hi : i < n) (hn : n ≤ c) (hc : c < 2 ^ 31) (hr : xrd (f i) = true) : Ev g 5 0 [some (.ref a), some (.int (nI i))] [] (lp H a e m e (nI n) c f) (.inl (some (f i)), lp H a e m e (nI n) c f) := by
  have hn_i : ¬ nI i < 0 := nI_pos (by omega)
  have hc_i : (nI i).toNatClampNeg = i := nI_clamp (by omega)
  have hb_i : ¬ c ≤ i := by omega
  have k0 : Ev g 4 0 [some (.ref a), some (.int (nI i))] [] (lp H a e m e (nI n) c f) (.inl (some (f i)), lp H a e m e (nI n) c f) := by
    simp only [e_Jx4a65c_elementData_915e3_0, e_Jx4a65c_elementData_915e3_1, e_Jx4a65c_elementData_915e3_4, e_Jx4a65c_elementData_915e3_5, e_Jx4a65c_elementData_915e3_6, nem, su_get, z1e0, z2e0, z3e0, z4e0, z5e0, z0e1, zme0, Nat.reduceEqDiff, not_true_eq_false, and_self, false_or, or_false, or_self,  bI_eq0, bI_eq1, i10, i20, i30, i00, ne_eq, Decidable.not_not, true_and, and_true, false_and, and_false, xrd_ref, xrd_null, xrd_rf, xid_int, xcat_int, xcat_ref, xcat_null, xcat_long, xcat_rf, xfit_int, xfit_0, xfit_1, xfit_ref, xfit_null, xfit_rf, not_false_eq_true, ↓reduceIte, z01_0, z01_1, bI_01, true_or, or_true, lp_O, lp_g1, lp_A ne, lp_l ne, lp_e ne, hn_i, hc_i, hb_i, hr]
  have kc := jd_checkI (g := g) (h := lp H a e m e (nI n) c f) (nI_pos (show i < 2 ^ 31 by omega)) (nI_lt hi (by omega))
  simp only [e_Jx4a65c_get_915e3_0, e_Jx4a65c_get_915e3_1, e_Jx4a65c_get_915e3_2, e_Jx4a65c_get_915e3_8, e_Jx4a65c_get_915e3_9, e_Jx4a65c_get_915e3_10, e_Jx4a65c_get_915e3_14, c_Jx4a65c_get_915e3_5 kc, c_Jx4a65c_get_915e3_11 _ k0, nem, su_get, z1e0, z2e0, z3e0, z4e0, z5e0, z0e1, zme0, Nat.reduceEqDiff, not_true_eq_false, and_self, false_or, or_false, or_self,  bI_eq0, bI_eq1, i10, i20, i30, i00, ne_eq, Decidable.not_not, true_and, and_true, false_and, and_false, xrd_ref, xrd_null, xrd_rf, xid_int, xcat_int, xcat_ref, xcat_null, xcat_long, xcat_rf, xfit_int, xfit_0, xfit_1, xfit_ref, xfit_null, xfit_rf, not_false_eq_true, ↓reduceIte, z01_0, z01_1, bI_01, true_or, or_true, lp_O, lp_g2, hr]
theorem jl_fast {a e n c i : Nat} {m : Int32} {f : Nat → Value} (ne : e ≠ a) (hi : i < n) (hn : n ≤ c) (hc : c < 2 ^ 31) (hb : g.1 ≤ a) (hb2 : g.1 ≤ e) (hA : xok H (.ref e) = false) (hf : ∀ j, j < n → xok H (f j) = true) : Ev g 10 0 [some (.ref a), some (.ref e), some (.int (nI i)), none] [] (lp H a e m e (nI n) c f) (.inl none, lp H a e (m + 1) e (nI (n - 1)) c (rmv f n i)) := by
  have s1 : nI n - 1 = nI (n - 1) := nI_s1 (by omega)
  have hn_i : ¬ nI (n - 1) < 0 := nI_pos (by omega)
  have hc_i : (nI (n - 1)).toNatClampNeg = n - 1 := nI_clamp (by omega)
  have hb_i : ¬ c ≤ n - 1 := by omega
  have end_ : ∀ f' : Nat → Value, Ev g 10 34 [some (.ref a), some (.ref e), some (.int (nI i)), some (.int (nI (n - 1)))] [] (lp H a e (m + 1) e (nI n) c f') (.inl none, lp H a e (m + 1) e (nI (n - 1)) c (updV f' (n - 1) .null)) := by
    intro f'
    have ok0 : ∀ K : xH, xok K .null = true := fun _ => rfl
    simp only [e_Jx4a65c_fastRemove_b59b0_34, e_Jx4a65c_fastRemove_b59b0_35, e_Jx4a65c_fastRemove_b59b0_36, e_Jx4a65c_fastRemove_b59b0_37, e_Jx4a65c_fastRemove_b59b0_38, e_Jx4a65c_fastRemove_b59b0_41, e_Jx4a65c_fastRemove_b59b0_42, e_Jx4a65c_fastRemove_b59b0_43, nem, su_get, z1e0, z2e0, z3e0, z4e0, z5e0, z0e1, zme0, Nat.reduceEqDiff, not_true_eq_false, and_self, false_or, or_false, or_self,  bI_eq0, bI_eq1, i10, i20, i30, i00, ne_eq, Decidable.not_not, true_and, and_true, false_and, and_false, xrd_ref, xrd_null, xrd_rf, xid_int, xcat_int, xcat_ref, xcat_null, xcat_long, xcat_rf, xfit_int, xfit_0, xfit_1, xfit_ref, xfit_null, xfit_rf, not_false_eq_true, ↓reduceIte, z01_0, z01_1, bI_01, true_or, or_true, lp_O, lp_p2, hb, hb2, lp_A ne, lp_l ne, hn_i, hc_i, hb_i, ok0, lp_w ne]
  by_cases x : i < n - 1
  · have x' : ¬ nI (n - 1) ≤ nI i := nI_ge (by omega) (by omega)
    have i1 : nI i + 1 = nI (i + 1) := nI_1 i
    have hc1 : (nI (i + 1)).toNatClampNeg = i + 1 := nI_clamp (by omega)
    have hc2 : (nI i).toNatClampNeg = i := nI_clamp (by omega)
    have d : nI (n - 1) - nI i = nI (n - 1 - i) := nI_sub (by omega)
    have hc3 : (nI (n - 1 - i)).toNatClampNeg = n - 1 - i := nI_clamp (by omega)
    have cnd : xA (lp H a e (m + 1) e (nI n) c f) e 2 = true ∧ xA (lp H a e (m + 1) e (nI n) c f) e 2 = true ∧ g.1 ≤ e ∧ 0 ≤ nI (i + 1) ∧ 0 ≤ nI i ∧ 0 ≤ nI (n - 1 - i) ∧ (nI (i + 1)).toNatClampNeg + (nI (n - 1 - i)).toNatClampNeg ≤ xl (lp H a e (m + 1) e (nI n) c f) e ∧ (nI i).toNatClampNeg + (nI (n - 1 - i)).toNatClampNeg ≤ xl (lp H a e (m + 1) e (nI n) c f) e ∧ (∀ j, j < (nI (n - 1 - i)).toNatClampNeg → xok (lp H a e (m + 1) e (nI n) c f) (xe (lp H a e (m + 1) e (nI n) c f) e ((nI (i + 1)).toNatClampNeg + j)) = true) ∧ (([] : List Value).map fun v => v.category).sum ≤ 8 := by
      refine ⟨lp_A ne, lp_A ne, hb2, Int32.not_lt.mp (nI_pos (by omega)), Int32.not_lt.mp (nI_pos (by omega)), Int32.not_lt.mp (nI_pos (by omega)), ?_, ?_, ?_, by decide⟩
      · rw [lp_l ne, hc1, hc3]; omega
      · rw [lp_l ne, hc2, hc3]; omega
      · intro j hj
        rw [hc3] at hj
        rw [lp_e ne, hc1]
        exact lp_ok hA (hf _ (by omega))
    simp only [e_Jx4a65c_fastRemove_b59b0_0, e_Jx4a65c_fastRemove_b59b0_1, e_Jx4a65c_fastRemove_b59b0_2, e_Jx4a65c_fastRemove_b59b0_5, e_Jx4a65c_fastRemove_b59b0_6, e_Jx4a65c_fastRemove_b59b0_7, e_Jx4a65c_fastRemove_b59b0_10, e_Jx4a65c_fastRemove_b59b0_11, e_Jx4a65c_fastRemove_b59b0_14, e_Jx4a65c_fastRemove_b59b0_15, e_Jx4a65c_fastRemove_b59b0_16, e_Jx4a65c_fastRemove_b59b0_17, e_Jx4a65c_fastRemove_b59b0_18, e_Jx4a65c_fastRemove_b59b0_19, e_Jx4a65c_fastRemove_b59b0_22, e_Jx4a65c_fastRemove_b59b0_23, e_Jx4a65c_fastRemove_b59b0_24, e_Jx4a65c_fastRemove_b59b0_25, e_Jx4a65c_fastRemove_b59b0_26, e_Jx4a65c_fastRemove_b59b0_27, e_Jx4a65c_fastRemove_b59b0_28, e_Jx4a65c_fastRemove_b59b0_29, e_Jx4a65c_fastRemove_b59b0_30, nem, su_get, z1e0, z2e0, z3e0, z4e0, z5e0, z0e1, zme0, Nat.reduceEqDiff, not_true_eq_false, and_self, false_or, or_false, or_self,  bI_eq0, bI_eq1, i10, i20, i30, i00, ne_eq, Decidable.not_not, true_and, and_true, false_and, and_false, xrd_ref, xrd_null, xrd_rf, xid_int, xcat_int, xcat_ref, xcat_null, xcat_long, xcat_rf, xfit_int, xfit_0, xfit_1, xfit_ref, xfit_null, xfit_rf, not_false_eq_true, ↓reduceIte, z01_0, z01_1, bI_01, true_or, or_true, lp_O, lp_g0, lp_g2, hb, lp_p0, s1, x', i1, d]
    rw [e_Jx4a65c_fastRemove_b59b0_31 cnd, hc1, hc2, hc3, lp_c ne]
    have := end_ (va_cpy f f (i + 1) i (n - 1 - i))
    simp only [rmv, if_pos x]
    exact this
  · have x' : nI (n - 1) ≤ nI i := nI_le (by omega) (by omega)
    simp only [e_Jx4a65c_fastRemove_b59b0_0, e_Jx4a65c_fastRemove_b59b0_1, e_Jx4a65c_fastRemove_b59b0_2, e_Jx4a65c_fastRemove_b59b0_5, e_Jx4a65c_fastRemove_b59b0_6, e_Jx4a65c_fastRemove_b59b0_7, e_Jx4a65c_fastRemove_b59b0_10, e_Jx4a65c_fastRemove_b59b0_11, e_Jx4a65c_fastRemove_b59b0_14, e_Jx4a65c_fastRemove_b59b0_15, e_Jx4a65c_fastRemove_b59b0_16, e_Jx4a65c_fastRemove_b59b0_17, e_Jx4a65c_fastRemove_b59b0_18, e_Jx4a65c_fastRemove_b59b0_19, e_Jx4a65c_fastRemove_b59b0_22, e_Jx4a65c_fastRemove_b59b0_23, e_Jx4a65c_fastRemove_b59b0_24, e_Jx4a65c_fastRemove_b59b0_25, e_Jx4a65c_fastRemove_b59b0_26, e_Jx4a65c_fastRemove_b59b0_27, e_Jx4a65c_fastRemove_b59b0_28, e_Jx4a65c_fastRemove_b59b0_29, e_Jx4a65c_fastRemove_b59b0_30, nem, su_get, z1e0, z2e0, z3e0, z4e0, z5e0, z0e1, zme0, Nat.reduceEqDiff, not_true_eq_false, and_self, false_or, or_false, or_self,  bI_eq0, bI_eq1, i10, i20, i30, i00, ne_eq, Decidable.not_not, true_and, and_true, false_and, and_false, xrd_ref, xrd_null, xrd_rf, xid_int, xcat_int, xcat_ref, xcat_null, xcat_long, xcat_rf, xfit_int, xfit_0, xfit_1, xfit_ref, xfit_null, xfit_rf, not_false_eq_true, ↓reduceIte, z01_0, z01_1, bI_01, true_or, or_true, lp_O, lp_g0, lp_g2, hb, lp_p0, s1, x']
    simp only [rmv, if_neg x]
    exact end_ f
theorem jl_remove {a e n c i : Nat} {m : Int32} {f : Nat → Value} (ne : e ≠ a) (hi : i < n) (hn : n ≤ c) (hc : c < 2 ^ 31) (hb : g.1 ≤ a) (hb2 : g.1 ≤ e) (hA : xok H (.ref e) = false) (hf : ∀ j, j < n → xok H (f j) = true) (hr : xrd (f i) = true) : Ev g 9 0 [some (.ref a), some (.int (nI i)), none, none] [] (lp H a e m e (nI n) c f) (.inl (some (f i)), lp H a e (m + 1) e (nI (n - 1)) c (rmv f n i)) := by
  have hn_i : ¬ nI i < 0 := nI_pos (by omega)
  have hc_i : (nI i).toNatClampNeg = i := nI_clamp (by omega)
  have hb_i : ¬ c ≤ i := by omega
  have kc := jd_checkI (g := g) (h := lp H a e m e (nI n) c f) (nI_pos (show i < 2 ^ 31 by omega)) (nI_lt hi (by omega))
  have kf := jl_fast (g := g) (H := H) (m := m) ne hi hn hc hb hb2 hA hf
  simp only [e_Jx4a65c_remove_915e3_0, e_Jx4a65c_remove_915e3_1, e_Jx4a65c_remove_915e3_2, e_Jx4a65c_remove_915e3_8, e_Jx4a65c_remove_915e3_9, e_Jx4a65c_remove_915e3_10, e_Jx4a65c_remove_915e3_13, e_Jx4a65c_remove_915e3_14, e_Jx4a65c_remove_915e3_15, e_Jx4a65c_remove_915e3_16, e_Jx4a65c_remove_915e3_17, e_Jx4a65c_remove_915e3_18, e_Jx4a65c_remove_915e3_19, e_Jx4a65c_remove_915e3_20, e_Jx4a65c_remove_915e3_24, e_Jx4a65c_remove_915e3_25, nem, su_get, z1e0, z2e0, z3e0, z4e0, z5e0, z0e1, zme0, Nat.reduceEqDiff, not_true_eq_false, and_self, false_or, or_false, or_self,  bI_eq0, bI_eq1, i10, i20, i30, i00, ne_eq, Decidable.not_not, true_and, and_true, false_and, and_false, xrd_ref, xrd_null, xrd_rf, xid_int, xcat_int, xcat_ref, xcat_null, xcat_long, xcat_rf, xfit_int, xfit_0, xfit_1, xfit_ref, xfit_null, xfit_rf, not_false_eq_true, ↓reduceIte, z01_0, z01_1, bI_01, true_or, or_true, lp_O, lp_g2, lp_g1, c_Jx4a65c_remove_915e3_5 kc, lp_A ne, lp_l ne, lp_e ne, hn_i, hc_i, hb_i, hr, c_Jx4a65c_remove_915e3_21 _ _ kf]
theorem jl_range {a n i : Nat} (ho : xO H a 0 = true) (h2 : xg H a 2 = .int (nI n)) (hi : i ≤ n) (hn : n < 2 ^ 31) : Ev g 12 0 [some (.ref a), some (.int (nI i))] [] H (.inl none, H) := by
  have x : ¬ nI n < nI i := nI_nlt hi hn
  have y : 0 ≤ nI i := Int32.not_lt.mp (nI_pos (by omega))
  simp only [e_Jx4a65c_rangeCheckForAdd_d00df_0, e_Jx4a65c_rangeCheckForAdd_d00df_1, e_Jx4a65c_rangeCheckForAdd_d00df_2, e_Jx4a65c_rangeCheckForAdd_d00df_5, e_Jx4a65c_rangeCheckForAdd_d00df_8, e_Jx4a65c_rangeCheckForAdd_d00df_9, e_Jx4a65c_rangeCheckForAdd_d00df_15, e_Jx4a65c_rangeCheckForAdd_d00df_16, e_Jx4a65c_rangeCheckForAdd_d00df_17, e_Jx4a65c_rangeCheckForAdd_d00df_25, nem, su_get, z1e0, z2e0, z3e0, z4e0, z5e0, z0e1, zme0, Nat.reduceEqDiff, not_true_eq_false, and_self, false_or, or_false, or_self,  bI_eq0, bI_eq1, i10, i20, i30, i00, ne_eq, Decidable.not_not, true_and, and_true, false_and, and_false, xrd_ref, xrd_null, xrd_rf, xid_int, xcat_int, xcat_ref, xcat_null, xcat_long, xcat_rf, xfit_int, xfit_0, xfit_1, xfit_ref, xfit_null, xfit_rf, not_false_eq_true, ↓reduceIte, z01_0, z01_1, bI_01, true_or, or_true, ho, h2, x, y]
/-- behind the growth -/
theorem jl_ins {a e n c i : Nat} {m : Int32} {v : Value} {f : Nat → Value} (ne : e ≠ a) (hi : i ≤ n) (hn : n < c) (hc : c < 2 ^ 31) (hb : g.1 ≤ a) (hb2 : g.1 ≤ e) (hf : ∀ j, j < n → xok (lp H a e m e (nI n) c f) (f j) = true) (hv : ∀ f', xok (lp H a e m e (nI n) c f') v = true) (hr : xrd v = true) : Ev g 8 38 [some (.ref a), some (.int (nI i)), some v, some (.int (nI n)), some (.ref e)] [] (lp H a e m e (nI n) c f) (.inl none, lp H a e m e (nI (n + 1)) c (updV (va_cpy f f i (i + 1) (n - i)) i v)) := by
  have hn_i : ¬ nI i < 0 := nI_pos (by omega)
  have hc_i : (nI i).toNatClampNeg = i := nI_clamp (by omega)
  have hb_i : ¬ c ≤ i := by omega
  have i1 : nI i + 1 = nI (i + 1) := nI_1 i
  have hc1 : (nI (i + 1)).toNatClampNeg = i + 1 := nI_clamp (by omega)
  have d : nI n - nI i = nI (n - i) := nI_sub (by omega)
  have hc3 : (nI (n - i)).toNatClampNeg = n - i := nI_clamp (by omega)
  have cnd : xA (lp H a e m e (nI n) c f) e 2 = true ∧ xA (lp H a e m e (nI n) c f) e 2 = true ∧ g.1 ≤ e ∧ 0 ≤ nI i ∧ 0 ≤ nI (i + 1) ∧ 0 ≤ nI (n - i) ∧ (nI i).toNatClampNeg + (nI (n - i)).toNatClampNeg ≤ xl (lp H a e m e (nI n) c f) e ∧ (nI (i + 1)).toNatClampNeg + (nI (n - i)).toNatClampNeg ≤ xl (lp H a e m e (nI n) c f) e ∧ (∀ j, j < (nI (n - i)).toNatClampNeg → xok (lp H a e m e (nI n) c f) (xe (lp H a e m e (nI n) c f) e ((nI i).toNatClampNeg + j)) = true) ∧ (([] : List Value).map fun v => v.category).sum ≤ 8 := by
    refine ⟨lp_A ne, lp_A ne, hb2, Int32.not_lt.mp (nI_pos (by omega)), Int32.not_lt.mp (nI_pos (by omega)), Int32.not_lt.mp (nI_pos (by omega)), ?_, ?_, ?_, by decide⟩
    · rw [lp_l ne, hc_i, hc3]; omega
    · rw [lp_l ne, hc1, hc3]; omega
    · intro j hj
      rw [hc3] at hj
      rw [lp_e ne, hc_i]
      exact hf _ (by omega)
  simp only [e_Jx4a65c_add_7a177_38, e_Jx4a65c_add_7a177_40, e_Jx4a65c_add_7a177_41, e_Jx4a65c_add_7a177_43, e_Jx4a65c_add_7a177_44, e_Jx4a65c_add_7a177_45, e_Jx4a65c_add_7a177_46, e_Jx4a65c_add_7a177_47, e_Jx4a65c_add_7a177_48, nem, su_get, z1e0, z2e0, z3e0, z4e0, z5e0, z0e1, zme0, Nat.reduceEqDiff, not_true_eq_false, and_self, false_or, or_false, or_self,  bI_eq0, bI_eq1, i10, i20, i30, i00, ne_eq, Decidable.not_not, true_and, and_true, false_and, and_false, xrd_ref, xrd_null, xrd_rf, xid_int, xcat_int, xcat_ref, xcat_null, xcat_long, xcat_rf, xfit_int, xfit_0, xfit_1, xfit_ref, xfit_null, xfit_rf, not_false_eq_true, ↓reduceIte, z01_0, z01_1, bI_01, true_or, or_true, i1, d]
  rw [e_Jx4a65c_add_7a177_49 cnd, hc1, hc_i, hc3, lp_c ne]
  simp only [e_Jx4a65c_add_7a177_52, e_Jx4a65c_add_7a177_54, e_Jx4a65c_add_7a177_55, e_Jx4a65c_add_7a177_56, e_Jx4a65c_add_7a177_57, e_Jx4a65c_add_7a177_58, e_Jx4a65c_add_7a177_59, e_Jx4a65c_add_7a177_60, e_Jx4a65c_add_7a177_61, e_Jx4a65c_add_7a177_64, nem, su_get, z1e0, z2e0, z3e0, z4e0, z5e0, z0e1, zme0, Nat.reduceEqDiff, not_true_eq_false, and_self, false_or, or_false, or_self,  bI_eq0, bI_eq1, i10, i20, i30, i00, ne_eq, Decidable.not_not, true_and, and_true, false_and, and_false, xrd_ref, xrd_null, xrd_rf, xid_int, xcat_int, xcat_ref, xcat_null, xcat_long, xcat_rf, xfit_int, xfit_0, xfit_1, xfit_ref, xfit_null, xfit_rf, not_false_eq_true, ↓reduceIte, z01_0, z01_1, bI_01, true_or, or_true, lp_A ne, lp_l ne, hn_i, hc_i, hb_i, hv, hr, hb, hb2, lp_w ne, lp_O, lp_p2, nI_1]
theorem jl_addAt {a e n c i : Nat} {m : Int32} {v : Value} {f : Nat → Value} (ne : e ≠ a) (hi : i ≤ n) (hn : n < c) (hc : c < 2 ^ 31) (hb : g.1 ≤ a) (hb2 : g.1 ≤ e) (hA : xok H (.ref e) = false) (hf : ∀ j, j < n → xok H (f j) = true) (hv : xok H v = true) (hr : xrd v = true) : Ev g 8 0 [some (.ref a), some (.int (nI i)), some v, none, none] [] (lp H a e m e (nI n) c f) (.inl none, lp H a e (m + 1) e (nI (n + 1)) c (updV (va_cpy f f i (i + 1) (n - i)) i v)) := by
  have nn : ¬ nI n = nI c := fun q => by have := (nI_eq (show n < 2 ^ 31 by omega) hc).mp q; omega
  have kr := jl_range (g := g) (H := lp H a e m e (nI n) c f) lp_O lp_g2 hi (by omega)
  simp only [e_Jx4a65c_add_7a177_0, e_Jx4a65c_add_7a177_1, e_Jx4a65c_add_7a177_5, e_Jx4a65c_add_7a177_6, e_Jx4a65c_add_7a177_7, e_Jx4a65c_add_7a177_10, e_Jx4a65c_add_7a177_11, e_Jx4a65c_add_7a177_12, e_Jx4a65c_add_7a177_15, e_Jx4a65c_add_7a177_16, e_Jx4a65c_add_7a177_19, e_Jx4a65c_add_7a177_20, e_Jx4a65c_add_7a177_21, e_Jx4a65c_add_7a177_22, e_Jx4a65c_add_7a177_25, e_Jx4a65c_add_7a177_26, nem, su_get, z1e0, z2e0, z3e0, z4e0, z5e0, z0e1, zme0, Nat.reduceEqDiff, not_true_eq_false, and_self, false_or, or_false, or_self,  bI_eq0, bI_eq1, i10, i20, i30, i00, ne_eq, Decidable.not_not, true_and, and_true, false_and, and_false, xrd_ref, xrd_null, xrd_rf, xid_int, xcat_int, xcat_ref, xcat_null, xcat_long, xcat_rf, xfit_int, xfit_0, xfit_1, xfit_ref, xfit_null, xfit_rf, not_false_eq_true, ↓reduceIte, z01_0, z01_1, bI_01, true_or, or_true, c_Jx4a65c_add_7a177_2 lp_O kr, lp_O, lp_g0, lp_g1, lp_g2, lp_p0, hb, e_Jx4a65c_add_7a177_28 (lp_cell ne), e_Jx4a65c_add_7a177_29, nn]
  exact jl_ins ne hi hn hc hb hb2 (fun j hj => lp_ok hA (hf j hj)) (fun f' => lp_ok hA hv) hr
theorem jl_addAtG {a e n i : Nat} {m : Int32} {v : Value} {f : Nat → Value} (h1 : 1 ≤ n) (hi : i ≤ n) (hn : n < 1000) (ne : e ≠ a) (ha : a < H.1) (he : e < H.1) (hb : g.1 ≤ a) (hr : xrm g H (gcap n) = true) (hA : xok H (.ref e) = false) (hf : ∀ j, j < n → xok H (f j) = true ∧ f j ≠ .ref H.1) (hv : xok H v = true) (hv2 : v ≠ .ref H.1) (hrd : xrd v = true) : Ev g 8 0 [some (.ref a), some (.int (nI i)), some v, none, none] [] (lp H a e m e (nI n) n f) (.inl none, lp (gH H e n (gcap n) f) a H.1 (m + 1) H.1 (nI (n + 1)) (gcap n) (updV (va_cpy (lC n f) (lC n f) i (i + 1) (n - i)) i v)) := by
  have b : gcap n < 2000 := by unfold gcap; split <;> omega
  have b2 : n < gcap n := by unfold gcap; split <;> omega
  have ke := jd_grow (g := g) (H := H) (a := a) (e := e) (m := m + 1) (n := n) (f := f) h1 hn ne ha he (by omega) hb hr hA hf
  have ok2 : ∀ v f', xok H v = true → v ≠ .ref H.1 → xok (lp (gH H e n (gcap n) f) a H.1 (m + 1) H.1 (nI n) (gcap n) f') v = true := by
    intro v f' hv hv2
    cases v with
    | null => rfl
    | ref y =>
      have y1 : y ≠ H.1 := fun x => hv2 (by rw [x])
      have y2 : y ≠ e := by rintro rfl; rw [hA] at hv; cases hv
      simp only [xok, lp, gH] at hv ⊢
      by_cases x : y = a
      · simp [x]
      · rw [if_neg x, if_neg y1, if_neg y2]; exact hv
    | _ => simp [xok] at hv
  have kr := jl_range (g := g) (H := lp H a e m e (nI n) n f) lp_O lp_g2 hi (by omega)
  simp only [e_Jx4a65c_add_7a177_0, e_Jx4a65c_add_7a177_1, e_Jx4a65c_add_7a177_5, e_Jx4a65c_add_7a177_6, e_Jx4a65c_add_7a177_7, e_Jx4a65c_add_7a177_10, e_Jx4a65c_add_7a177_11, e_Jx4a65c_add_7a177_12, e_Jx4a65c_add_7a177_15, e_Jx4a65c_add_7a177_16, e_Jx4a65c_add_7a177_19, e_Jx4a65c_add_7a177_20, e_Jx4a65c_add_7a177_21, e_Jx4a65c_add_7a177_22, e_Jx4a65c_add_7a177_25, e_Jx4a65c_add_7a177_26, nem, su_get, z1e0, z2e0, z3e0, z4e0, z5e0, z0e1, zme0, Nat.reduceEqDiff, not_true_eq_false, and_self, false_or, or_false, or_self,  bI_eq0, bI_eq1, i10, i20, i30, i00, ne_eq, Decidable.not_not, true_and, and_true, false_and, and_false, xrd_ref, xrd_null, xrd_rf, xid_int, xcat_int, xcat_ref, xcat_null, xcat_long, xcat_rf, xfit_int, xfit_0, xfit_1, xfit_ref, xfit_null, xfit_rf, not_false_eq_true, ↓reduceIte, z01_0, z01_1, bI_01, true_or, or_true, c_Jx4a65c_add_7a177_2 lp_O kr, lp_O, lp_g0, lp_g1, lp_g2, lp_p0, hb, e_Jx4a65c_add_7a177_28 (lp_cell ne), e_Jx4a65c_add_7a177_29, e_Jx4a65c_add_7a177_32, e_Jx4a65c_add_7a177_36, c_Jx4a65c_add_7a177_33 lp_O ke]
  refine jl_ins (by omega) hi b2 (by omega) hb (by omega) (fun j hj => ?_) (fun f' => ok2 _ _ hv hv2) hrd
  simp only [lC, if_pos hj]
  exact ok2 _ _ (hf j hj).1 (hf j hj).2
theorem jl_addAt0 {a : Nat} {m : Int32} {v : Value} {f0 : Nat → Value} (ha : a < H.1) (hb : g.1 ≤ a) (hge : g.2.1 < g.1) (hed : H.2.2 g.2.1 = some (.inr (5, 0, f0))) (hr : xrm g H 10 = true) (hv : xok H v = true) (hv2 : v ≠ .ref H.1) (hrd : xrd v = true) : Ev g 8 0 [some (.ref a), some (.int 0), some v, none, none] [] (lq H a m g.2.1 0) (.inl none, lp (H.1 + 1, H.2.1 + 10, H.2.2) a H.1 (m + 1) H.1 1 10 (updV (va_cpy (fun _ => .null) (fun _ => .null) 0 1 0) 0 v)) := by
  have ke := jd_grow0 (g := g) (H := H) (a := a) (m := m + 1) (f0 := f0) ha (by omega) hb hge hed hr
  have ce : (lq H a (m + 1) g.2.1 0).2.2 g.2.1 = some (.inr (5, 0, f0)) := by
    simp only [lq]
    rw [if_neg (by omega)]
    exact hed
  have ok2 : ∀ f', xok (lp (H.1 + 1, H.2.1 + 10, H.2.2) a H.1 (m + 1) H.1 (nI 0) 10 f') v = true := by
    intro f'
    cases v with
    | null => rfl
    | ref y =>
      have y1 : y ≠ H.1 := fun x => hv2 (by rw [x])
      simp only [xok, lp] at hv ⊢
      by_cases x : y = a
      · simp [x]
      · rw [if_neg x, if_neg y1]; exact hv
    | _ => simp [xok] at hv
  have kr := jl_range (g := g) (H := lq H a m g.2.1 0) (a := a) (n := 0) (i := 0) lq_O (by rw [nI_0]; exact lq_g2) (Nat.le_refl _) (by decide)
  rw [nI_0] at kr
  have k0 := jl_ins (g := g) (H := (H.1 + 1, H.2.1 + 10, H.2.2)) (a := a) (e := H.1) (n := 0) (c := 10) (i := 0) (m := m + 1) (v := v) (f := fun _ => .null) (by omega) (Nat.le_refl _) (by decide) (by decide) hb (by omega) (fun j hj => by omega) ok2 hrd
  rw [nI_0, Nat.zero_add, nI_1e] at k0
  simp only [e_Jx4a65c_add_7a177_0, e_Jx4a65c_add_7a177_1, e_Jx4a65c_add_7a177_5, e_Jx4a65c_add_7a177_6, e_Jx4a65c_add_7a177_7, e_Jx4a65c_add_7a177_10, e_Jx4a65c_add_7a177_11, e_Jx4a65c_add_7a177_12, e_Jx4a65c_add_7a177_15, e_Jx4a65c_add_7a177_16, e_Jx4a65c_add_7a177_19, e_Jx4a65c_add_7a177_20, e_Jx4a65c_add_7a177_21, e_Jx4a65c_add_7a177_22, e_Jx4a65c_add_7a177_25, e_Jx4a65c_add_7a177_26, nem, su_get, z1e0, z2e0, z3e0, z4e0, z5e0, z0e1, zme0, Nat.reduceEqDiff, not_true_eq_false, and_self, false_or, or_false, or_self,  bI_eq0, bI_eq1, i10, i20, i30, i00, ne_eq, Decidable.not_not, true_and, and_true, false_and, and_false, xrd_ref, xrd_null, xrd_rf, xid_int, xcat_int, xcat_ref, xcat_null, xcat_long, xcat_rf, xfit_int, xfit_0, xfit_1, xfit_ref, xfit_null, xfit_rf, not_false_eq_true, ↓reduceIte, z01_0, z01_1, bI_01, true_or, or_true, c_Jx4a65c_add_7a177_2 lq_O kr, lq_O, lq_g0, lq_g1, lq_g2, lq_p0, hb, e_Jx4a65c_add_7a177_28 ce, nI_0, e_Jx4a65c_add_7a177_29, e_Jx4a65c_add_7a177_32, e_Jx4a65c_add_7a177_36, c_Jx4a65c_add_7a177_33 lq_O ke]
  exact k0
theorem lp_clear {a e n c : Nat} {m : Int32} (ne : e ≠ a) (hn : n ≤ c) (hc : c < 2 ^ 31) (hb2 : g.1 ≤ e) : ∀ (k i : Nat) (f : Nat → Value), i + k = n → ∃ a4, Ev g 11 27 [some (.ref a), some (.ref e), some (.int (nI n)), some (.int (nI i))] [] (lp H a e m e 0 c f) (.inl none, lp H a e m e 0 c a4) ∧ ∀ j, a4 j = if i ≤ j ∧ j < n then .null else f j := by
  intro k
  induction k with
  | zero =>
    intro i f hi
    have h2 : nI n ≤ nI i := nI_le (by omega) (by omega)
    refine ⟨f, ?_, fun j => ?_⟩
    · simp only [e_Jx4a65c_clear_da8c8_27, e_Jx4a65c_clear_da8c8_28, e_Jx4a65c_clear_da8c8_29, e_Jx4a65c_clear_da8c8_32, e_Jx4a65c_clear_da8c8_33, e_Jx4a65c_clear_da8c8_34, e_Jx4a65c_clear_da8c8_35, e_Jx4a65c_clear_da8c8_36, e_Jx4a65c_clear_da8c8_39, e_Jx4a65c_clear_da8c8_42, nem, su_get, z1e0, z2e0, z3e0, z4e0, z5e0, z0e1, zme0, Nat.reduceEqDiff, not_true_eq_false, and_self, false_or, or_false, or_self,  bI_eq0, bI_eq1, i10, i20, i30, i00, ne_eq, Decidable.not_not, true_and, and_true, false_and, and_false, xrd_ref, xrd_null, xrd_rf, xid_int, xcat_int, xcat_ref, xcat_null, xcat_long, xcat_rf, xfit_int, xfit_0, xfit_1, xfit_ref, xfit_null, xfit_rf, not_false_eq_true, ↓reduceIte, z01_0, z01_1, bI_01, true_or, or_true, h2]
    · rw [if_neg (by omega)]
  | succ k ih =>
    intro i f hi
    have h2 : ¬ nI n ≤ nI i := nI_ge (by omega) (by omega)
    have hn_i : ¬ nI i < 0 := nI_pos (by omega)
    have hc_i : (nI i).toNatClampNeg = i := nI_clamp (by omega)
    have hb_i : ¬ c ≤ i := by omega
    have ok0 : ∀ K : xH, xok K .null = true := fun _ => rfl
    obtain ⟨f4, q1, q2⟩ := ih (i + 1) (updV f i .null) (by omega)
    refine ⟨f4, ?_, fun j => ?_⟩
    · rw [e_Jx4a65c_clear_da8c8_27 rfl]
      simp only [e_Jx4a65c_clear_da8c8_28, e_Jx4a65c_clear_da8c8_29, e_Jx4a65c_clear_da8c8_32, e_Jx4a65c_clear_da8c8_33, e_Jx4a65c_clear_da8c8_34, e_Jx4a65c_clear_da8c8_35, e_Jx4a65c_clear_da8c8_36, e_Jx4a65c_clear_da8c8_39, e_Jx4a65c_clear_da8c8_42, nem, su_get, z1e0, z2e0, z3e0, z4e0, z5e0, z0e1, zme0, Nat.reduceEqDiff, not_true_eq_false, and_self, false_or, or_false, or_self,  bI_eq0, bI_eq1, i10, i20, i30, i00, ne_eq, Decidable.not_not, true_and, and_true, false_and, and_false, xrd_ref, xrd_null, xrd_rf, xid_int, xcat_int, xcat_ref, xcat_null, xcat_long, xcat_rf, xfit_int, xfit_0, xfit_1, xfit_ref, xfit_null, xfit_rf, not_false_eq_true, ↓reduceIte, z01_0, z01_1, bI_01, true_or, or_true, h2, hn_i, hc_i, hb_i, lp_A ne, lp_l ne, lp_w ne, ok0, hb2, nI_1]
      exact q1
    · rw [q2 j]
      by_cases x : j = i
      · subst x; simp [updV]; intro y; omega
      · simp only [updV, if_neg x]
        by_cases y : i + 1 ≤ j ∧ j < n
        · rw [if_pos y, if_pos (by omega)]
        · rw [if_neg y, if_neg (by omega)]
theorem jl_clear {a e n c : Nat} {m : Int32} {f : Nat → Value} (ne : e ≠ a) (hn : n ≤ c) (hc : c < 2 ^ 31) (hb : g.1 ≤ a) (hb2 : g.1 ≤ e) : Ev g 11 0 [some (.ref a), none, none, none] [] (lp H a e m e (nI n) c (lC n f)) (.inl none, lp H a e (m + 1) e 0 c (fun _ => .null)) := by
  obtain ⟨f4, q1, q2⟩ := lp_clear (g := g) (H := H) (a := a) (e := e) (n := n) (c := c) (m := m + 1) ne hn hc hb2 n 0 (lC n f) (by omega)
  have : f4 = fun _ => .null := by
    funext j
    rw [q2 j]
    by_cases x : j < n
    · rw [if_pos ⟨Nat.zero_le _, x⟩]
    · rw [if_neg (by omega)]; simp [lC, x]
  rw [this, nI_0] at q1
  simp only [e_Jx4a65c_clear_da8c8_0, e_Jx4a65c_clear_da8c8_1, e_Jx4a65c_clear_da8c8_2, e_Jx4a65c_clear_da8c8_5, e_Jx4a65c_clear_da8c8_6, e_Jx4a65c_clear_da8c8_7, e_Jx4a65c_clear_da8c8_10, e_Jx4a65c_clear_da8c8_11, e_Jx4a65c_clear_da8c8_14, e_Jx4a65c_clear_da8c8_15, e_Jx4a65c_clear_da8c8_16, e_Jx4a65c_clear_da8c8_19, e_Jx4a65c_clear_da8c8_20, e_Jx4a65c_clear_da8c8_21, e_Jx4a65c_clear_da8c8_22, e_Jx4a65c_clear_da8c8_23, e_Jx4a65c_clear_da8c8_26, nem, su_get, z1e0, z2e0, z3e0, z4e0, z5e0, z0e1, zme0, Nat.reduceEqDiff, not_true_eq_false, and_self, false_or, or_false, or_self,  bI_eq0, bI_eq1, i10, i20, i30, i00, ne_eq, Decidable.not_not, true_and, and_true, false_and, and_false, xrd_ref, xrd_null, xrd_rf, xid_int, xcat_int, xcat_ref, xcat_null, xcat_long, xcat_rf, xfit_int, xfit_0, xfit_1, xfit_ref, xfit_null, xfit_rf, not_false_eq_true, ↓reduceIte, z01_0, z01_1, bI_01, true_or, or_true, lp_O, lp_g0, lp_g1, lp_g2, lp_p0, lp_p2, hb]
  exact q1
theorem jl_clear0 {a : Nat} {m : Int32} (hb : g.1 ≤ a) : Ev g 11 0 [some (.ref a), none, none, none] [] (lq H a m g.2.1 0) (.inl none, lq H a (m + 1) g.2.1 0) := by
  simp only [e_Jx4a65c_clear_da8c8_0, e_Jx4a65c_clear_da8c8_1, e_Jx4a65c_clear_da8c8_2, e_Jx4a65c_clear_da8c8_5, e_Jx4a65c_clear_da8c8_6, e_Jx4a65c_clear_da8c8_7, e_Jx4a65c_clear_da8c8_10, e_Jx4a65c_clear_da8c8_11, e_Jx4a65c_clear_da8c8_14, e_Jx4a65c_clear_da8c8_15, e_Jx4a65c_clear_da8c8_16, e_Jx4a65c_clear_da8c8_19, e_Jx4a65c_clear_da8c8_20, e_Jx4a65c_clear_da8c8_21, e_Jx4a65c_clear_da8c8_22, e_Jx4a65c_clear_da8c8_23, e_Jx4a65c_clear_da8c8_26, e_Jx4a65c_clear_da8c8_27, e_Jx4a65c_clear_da8c8_28, e_Jx4a65c_clear_da8c8_29, e_Jx4a65c_clear_da8c8_32, e_Jx4a65c_clear_da8c8_33, e_Jx4a65c_clear_da8c8_34, e_Jx4a65c_clear_da8c8_35, e_Jx4a65c_clear_da8c8_36, e_Jx4a65c_clear_da8c8_39, e_Jx4a65c_clear_da8c8_42, nem, su_get, z1e0, z2e0, z3e0, z4e0, z5e0, z0e1, zme0, Nat.reduceEqDiff, not_true_eq_false, and_self, false_or, or_false, or_self,  bI_eq0, bI_eq1, i10, i20, i30, i00, ne_eq, Decidable.not_not, true_and, and_true, false_and, and_false, xrd_ref, xrd_null, xrd_rf, xid_int, xcat_int, xcat_ref, xcat_null, xcat_long, xcat_rf, xfit_int, xfit_0, xfit_1, xfit_ref, xfit_null, xfit_rf, not_false_eq_true, ↓reduceIte, z01_0, z01_1, bI_01, true_or, or_true, lq_O, lq_g0, lq_g1, lq_g2, lq_p0, lq_p2, hb]
theorem jl_size0 {a r : Nat} {m k : Int32} : Ev g 3 0 [some (.ref a)] [] (lq H a m r k) (.inl (some (.int k)), lq H a m r k) := by
  simp only [e_Jx4a65c_size_8abf5_0, e_Jx4a65c_size_8abf5_1, e_Jx4a65c_size_8abf5_4, nem, su_get, z1e0, z2e0, z3e0, z4e0, z5e0, z0e1, zme0, Nat.reduceEqDiff, not_true_eq_false, and_self, false_or, or_false, or_self,  bI_eq0, bI_eq1, i10, i20, i30, i00, ne_eq, Decidable.not_not, true_and, and_true, false_and, and_false, xrd_ref, xrd_null, xrd_rf, xid_int, xcat_int, xcat_ref, xcat_null, xcat_long, xcat_rf, xfit_int, xfit_0, xfit_1, xfit_ref, xfit_null, xfit_rf, not_false_eq_true, ↓reduceIte, z01_0, z01_1, bI_01, true_or, or_true, lq_O, lq_g2]
end JH
