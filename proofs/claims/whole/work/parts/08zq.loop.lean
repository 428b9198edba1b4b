/-! ===== the law's loop ===== -/
section LP
variable {g : Nat × Nat × Nat} {b N : Nat} {xs : Nat → Int32}
theorem sw22 (v : Int32) : (v.toInt < 0 ∨ 21 < v.toInt) ∨ ∃ k : Nat, k < 22 ∧ v = nI k := by
  by_cases h : v.toInt < 0 ∨ 21 < v.toInt
  · exact Or.inl h
  · refine Or.inr (of_in (n := 22) (hi := 22) (by decide) ⟨?_, ?_⟩)
    · rw [Int32.le_iff_toInt_le]
      have e0 : (0 : Int32).toInt = 0 := by decide
      omega
    · rw [Int32.lt_iff_toInt_lt]
      have e0 : (22 : Int32).toInt = 22 := by decide
      omega
theorem nI_m7 {N i : Nat} (hN : N < 2 ^ 31) (hi : i < 2 ^ 30) : nI N - 7 < nI i ↔ N < i + 7 := by
  by_cases h : 7 ≤ N
  · have e : nI N - 7 = nI (N - 7) := nI_sub (a := N) (b := 7) h
    rw [e, nI_ltI (by omega) (by omega)]
    omega
  · have e : nI N - 7 < 0 := by
      match N, h with
      | 0, _ => decide +kernel
      | 1, _ => decide +kernel
      | 2, _ => decide +kernel
      | 3, _ => decide +kernel
      | 4, _ => decide +kernel
      | 5, _ => decide +kernel
      | 6, _ => decide +kernel
      | n + 7, h => exact absurd (Nat.le_add_left 7 n) h
    have p : (0 : Int32) ≤ nI i := nI_pos' (by omega)
    refine ⟨fun _ => by omega, fun _ => ?_⟩
    rw [Int32.lt_iff_toInt_lt] at e ⊢
    rw [Int32.le_iff_toInt_le] at p
    omega
theorem L_step {n i : Nat} {s : mS} {H : xH} {a5 a6 : Option Value} (hi : i + 7 ≤ N) (hN : N ≤ 3584) (hn : n ≤ 1050) (h : LI g b N xs n s s H) : ∃ (s2 : mS) (H3 : xH) (c5 c6 : Option Value), LI g b N xs (n + 2) s2 s2 H3 ∧ ∀ out, Ev g 179 40 [some (.ref b), some (.ref g.1), some (.ref (g.1 + 20)), some (.ref (g.1 + 62)), some (.int (nI i)), a5, a6] [.int (xs i &&& 31)] H out = Ev g 179 1466 [some (.ref b), some (.ref g.1), some (.ref (g.1 + 20)), some (.ref (g.1 + 62)), some (.int (nI i)), c5, c6] [] H3 out := by
  rcases sw22 (xs i &&& 31) with d | ⟨k, hk, e⟩
  · exact ⟨s, H, a5, a6, LI_up (LI_up h), fun out => e_L_law_40d d⟩
  · have fin : ∀ pc, NX g b N xs n i pc H a5 a6 → (∀ out, Ev g 179 40 [some (.ref b), some (.ref g.1), some (.ref (g.1 + 20)), some (.ref (g.1 + 62)), some (.int (nI i)), a5, a6] [.int (nI k)] H out = Ev g 179 pc [some (.ref b), some (.ref g.1), some (.ref (g.1 + 20)), some (.ref (g.1 + 62)), some (.int (nI i)), a5, a6] [] H out) → ∃ (s2 : mS) (H3 : xH) (c5 c6 : Option Value), LI g b N xs (n + 2) s2 s2 H3 ∧ ∀ out, Ev g 179 40 [some (.ref b), some (.ref g.1), some (.ref (g.1 + 20)), some (.ref (g.1 + 62)), some (.int (nI i)), a5, a6] [.int (nI k)] H out = Ev g 179 1466 [some (.ref b), some (.ref g.1), some (.ref (g.1 + 20)), some (.ref (g.1 + 62)), some (.int (nI i)), c5, c6] [] H3 out := by
      intro pc q t
      obtain ⟨s2, H3, c5, c6, hL, w⟩ := q
      exact ⟨s2, H3, c5, c6, hL, fun out => (t out).trans (w out)⟩
    rw [e]
    match k, hk with
    | 0, _ => exact fin 144 (D_pilot hi hN hn h) (fun out => e_L_law_40k0)
    | 1, _ => exact fin 224 (D_ship hi hN hn h) (fun out => e_L_law_40k1)
    | 2, _ => exact fin 374 (D_tide hi hN hn h) (fun out => e_L_law_40k2)
    | 3, _ => exact fin 442 (D_tear hi hN hn h) (fun out => e_L_law_40k3)
    | 4, _ => exact fin 505 (D_boat hi hN hn h) (fun out => e_L_law_40k4)
    | 5, _ => exact fin 573 (D_road hi hN hn h) (fun out => e_L_law_40k5)
    | 6, _ => exact fin 609 (D_rest hi hN hn h) (fun out => e_L_law_40k6)
    | 7, _ => exact fin 669 (D_off hi hN hn h) (fun out => e_L_law_40k7)
    | 8, _ => exact fin 772 (D_will hi hN hn h) (fun out => e_L_law_40k8)
    | 9, _ => exact fin 863 (D_hour hi hN hn h) (fun out => e_L_law_40k9)
    | 10, _ => exact fin 876 (D_back hi hN hn h) (fun out => e_L_law_40k10)
    | 11, _ => exact fin 939 (D_swap hi hN hn h) (fun out => e_L_law_40k11)
    | 12, _ => exact fin 1014 (D_undo hi hN hn h) (fun out => e_L_law_40k12)
    | 13, _ => exact fin 1027 (D_may hi hN hn h) (fun out => e_L_law_40k13)
    | 14, _ => exact fin 1102 (D_window hi hN hn h) (fun out => e_L_law_40k14)
    | 15, _ => exact fin 1177 (D_seats hi hN hn h) (fun out => e_L_law_40k15)
    | 16, _ => exact fin 1230 (D_list hi hN hn h) (fun out => e_L_law_40k16)
    | 17, _ => exact fin 1255 (D_asked hi hN hn h) (fun out => e_L_law_40k17)
    | 18, _ => exact fin 1292 (D_look hi hN hn h) (fun out => e_L_law_40k18)
    | 19, _ => exact fin 1360 (D_craft hi hN hn h) (fun out => e_L_law_40k19)
    | 20, _ => exact fin 1428 (D_fair hi hN hn h) (fun out => e_L_law_40k20)
    | 21, _ => exact fin 1441 (D_count hi hN hn h) (fun out => e_L_law_40k21)
    | m + 22, hk => exact absurd hk (by omega)
theorem nI_7' (a : Nat) : nI a + 7 = nI (a + 7) := nI_add a 7
theorem L_loop (hN : N ≤ 3584) : ∀ (f n i : Nat) (s : mS) (H : xH) (a5 a6 : Option Value), N < i + 7 * f + 7 → i ≤ 3584 → n + 2 * f ≤ 1050 → LI g b N xs n s s H → ∃ h1, Ev g 179 23 [some (.ref b), some (.ref g.1), some (.ref (g.1 + 20)), some (.ref (g.1 + 62)), some (.int (nI i)), a5, a6] [] H (.inl (some (.int 1)), h1) := by
  intro f
  induction f with
  | zero =>
    intro n i s H a5 a6 h1 h2 h3 h
    have c : nI N - 7 < nI i := (nI_m7 (by omega) (by omega)).mpr (by omega)
    have hb := (LI_facts h).2.2.2
    refine ⟨H, ?_⟩
    rw [e_L_law_23 rfl]
    simp only [e_L_law_25, e_L_law_26 hb, e_L_law_27, e_L_law_29, e_L_law_30, e_L_law_1472, e_L_law_1473, c, nem, su_get, z1e0, z2e0, z3e0, z4e0, z5e0, z0e1, zme0, Nat.reduceEqDiff, not_true_eq_false, and_self, false_or, or_false, or_self,  bI_eq0, bI_eq1, i10, i20, i30, i00, ne_eq, Decidable.not_not, true_and, and_true, false_and, and_false, xrd_ref, xrd_null, xrd_rf, xid_int, xcat_int, xcat_ref, xcat_null, xcat_long, xcat_rf, xfit_int, xfit_0, xfit_1, xfit_ref, xfit_null, xfit_rf, not_false_eq_true, ↓reduceIte, z01_0, z01_1, bI_01, true_or, or_true]
  | succ f ih =>
    intro n i s H a5 a6 h1 h2 h3 h
    have hb := (LI_facts h).2.2.2
    by_cases q : i + 7 ≤ N
    · have c : ¬ nI N - 7 < nI i := fun w => by
        have := (nI_m7 (by omega) (by omega)).mp w
        omega
      obtain ⟨s2, H3, c5, c6, hL, w⟩ := L_step (a5 := a5) (a6 := a6) q hN (by omega) h
      obtain ⟨h9, r⟩ := ih (n + 2) (i + 7) s2 H3 c5 c6 (by omega) (by omega) (by omega) hL
      refine ⟨h9, ?_⟩
      obtain ⟨sA, sl, se⟩ := LI_script h
      have p0 := ix (i := i) (k := 0) q hN (by decide)
      rw [Nat.add_zero] at p0
      rw [e_L_law_23 rfl]
      simp only [e_L_law_25, e_L_law_26 hb, e_L_law_27, e_L_law_29, e_L_law_30, e_L_law_33, e_L_law_34, e_L_law_36, e_L_law_37, e_L_law_39, w, e_L_law_1466, e_L_law_1469, sA, sl, se, p0.1, p0.2.1, p0.2.2, c, nI_7', nem, su_get, z1e0, z2e0, z3e0, z4e0, z5e0, z0e1, zme0, Nat.reduceEqDiff, not_true_eq_false, and_self, false_or, or_false, or_self,  bI_eq0, bI_eq1, i10, i20, i30, i00, ne_eq, Decidable.not_not, true_and, and_true, false_and, and_false, xrd_ref, xrd_null, xrd_rf, xid_int, xcat_int, xcat_ref, xcat_null, xcat_long, xcat_rf, xfit_int, xfit_0, xfit_1, xfit_ref, xfit_null, xfit_rf, not_false_eq_true, ↓reduceIte, z01_0, z01_1, bI_01, true_or, or_true]
      exact r
    · have c : nI N - 7 < nI i := (nI_m7 (by omega) (by omega)).mpr (by omega)
      refine ⟨H, ?_⟩
      rw [e_L_law_23 rfl]
      simp only [e_L_law_25, e_L_law_26 hb, e_L_law_27, e_L_law_29, e_L_law_30, e_L_law_1472, e_L_law_1473, c, nem, su_get, z1e0, z2e0, z3e0, z4e0, z5e0, z0e1, zme0, Nat.reduceEqDiff, not_true_eq_false, and_self, false_or, or_false, or_self,  bI_eq0, bI_eq1, i10, i20, i30, i00, ne_eq, Decidable.not_not, true_and, and_true, false_and, and_false, xrd_ref, xrd_null, xrd_rf, xid_int, xcat_int, xcat_ref, xcat_null, xcat_long, xcat_rf, xfit_int, xfit_0, xfit_1, xfit_ref, xfit_null, xfit_rf, not_false_eq_true, ↓reduceIte, z01_0, z01_1, bI_01, true_or, or_true]
end LP
