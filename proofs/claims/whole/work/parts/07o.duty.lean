/-! ===== the class: duties end ===== -/
theorem ntS_1 : ∀ f t, ntS f t 1 = 1 := by
  intro f
  induction f with
  | zero => intro t; rfl
  | succ f ih => intro t; rw [ntS, if_pos (by decide)]; exact ih _
theorem ntS_01 : ∀ f t b, (b = 0 ∨ b = 1) → (ntS f t b = 0 ∨ ntS f t b = 1) := by
  intro f
  induction f with
  | zero => intro t b h; exact h
  | succ f ih =>
    intro t b h
    rw [ntS]
    apply ih
    split
    · exact Or.inr rfl
    · exact bI_01 _
section CD2
variable {g : Nat × Nat × Nat} {A : Nat → Nat → Nat} {z : zT} {s o s' o' : mS} {P S : Nat}
theorem lp_cnight {x W E : Nat} (hY : zok g A z P S) (hx : x < S) (hW : s 27 x = nI W) (hE : 1 + s 21 x / 100 = nI E) (hWE : W + E < 2 ^ 31) : ∀ f i, i + f = E → Ev g 102 2 [some (.ref (A 34 x)), some (.int (nI i))] [] (cp A z s o) (.inl (some (.int (ntS f (W + i) 0))), cp A z s o) := by
  have k1 := cd_led (g := g) (s := s) (o := o) hY hx
  rw [hE] at k1
  intro f
  induction f with
  | zero =>
    intro i hi
    have h2 : nI E ≤ nI i := nI_le (by omega) (by omega)
    simp only [e_X9_ledByNight_0, e_X9_ledByNight_1, e_X9_ledByNight_2, e_X9_ledByNight_3, e_X9_ledByNight_7, e_X9_ledByNight_10, e_X9_ledByNight_11, e_X9_ledByNight_14, e_X9_ledByNight_17, e_X9_ledByNight_18, e_X9_ledByNight_22, e_X9_ledByNight_25, e_X9_ledByNight_26, e_X9_ledByNight_27, e_X9_ledByNight_30, e_X9_ledByNight_33, e_X9_ledByNight_34, cO_34 hY, cg_34_7 hY, cO_35 hY, cg_35_1 hY, cO_36 hY, cg_36_1 hY, rP_n, rS_n, xrd_rP, xrd_rS, xfit_rP, xfit_rS, xcat_rP, xcat_rS, nem, su_get, z1e0, z2e0, z3e0, z4e0, z5e0, z0e1, zme0, Nat.reduceEqDiff, not_true_eq_false, and_self, false_or, or_false, or_self,  bI_eq0, bI_eq1, i10, i20, i30, i00, ne_eq, Decidable.not_not, true_and, and_true, false_and, and_false, xrd_ref, xrd_null, xrd_rf, xid_int, xcat_int, xcat_ref, xcat_null, xcat_long, xcat_rf, xfit_int, xfit_0, xfit_1, xfit_ref, xfit_null, xfit_rf, not_false_eq_true, ↓reduceIte, z01_0, z01_1, bI_01, true_or, or_true, c_X9_ledByNight_4 (cO_34 hY hx) k1, h2, ntS]
  | succ f ih =>
    intro i hi
    have h2 : ¬ nI E ≤ nI i := nI_ge (by omega) (by omega)
    have k2 := cd_isNight (g := g) (h := cp A z s o) (t := nI (W + i)) (a1 := none)
    rw [e_X9_ledByNight_2 rfl, ntS, if_neg (by decide)]
    by_cases a : nI (W + i) - nI (W + i) / 24 * 24 < 6 ∨ 21 < nI (W + i) - nI (W + i) / 24 * 24
    · have e : bI (nI (W + i) - nI (W + i) / 24 * 24 < 6 ∨ 21 < nI (W + i) - nI (W + i) / 24 * 24) = 1 := by simp only [bI, a, if_true]
      rw [e, ntS_1]
      rw [e] at k2
      simp only [e_X9_ledByNight_3, e_X9_ledByNight_7, e_X9_ledByNight_10, e_X9_ledByNight_11, e_X9_ledByNight_14, e_X9_ledByNight_17, e_X9_ledByNight_18, e_X9_ledByNight_22, e_X9_ledByNight_25, e_X9_ledByNight_26, e_X9_ledByNight_27, e_X9_ledByNight_30, e_X9_ledByNight_33, e_X9_ledByNight_34, cO_34 hY, cg_34_7 hY, cO_35 hY, cg_35_1 hY, cO_36 hY, cg_36_1 hY, rP_n, rS_n, xrd_rP, xrd_rS, xfit_rP, xfit_rS, xcat_rP, xcat_rS, nem, su_get, z1e0, z2e0, z3e0, z4e0, z5e0, z0e1, zme0, Nat.reduceEqDiff, not_true_eq_false, and_self, false_or, or_false, or_self,  bI_eq0, bI_eq1, i10, i20, i30, i00, ne_eq, Decidable.not_not, true_and, and_true, false_and, and_false, xrd_ref, xrd_null, xrd_rf, xid_int, xcat_int, xcat_ref, xcat_null, xcat_long, xcat_rf, xfit_int, xfit_0, xfit_1, xfit_ref, xfit_null, xfit_rf, not_false_eq_true, ↓reduceIte, z01_0, z01_1, bI_01, true_or, or_true, c_X9_ledByNight_4 (cO_34 hY hx) k1, c_X9_ledByNight_19 k2, h2, hx, hW, nI_add]
    · have e : bI (nI (W + i) - nI (W + i) / 24 * 24 < 6 ∨ 21 < nI (W + i) - nI (W + i) / 24 * 24) = 0 := by simp only [bI, a, if_false]
      rw [e]
      rw [e] at k2
      simp only [e_X9_ledByNight_3, e_X9_ledByNight_7, e_X9_ledByNight_10, e_X9_ledByNight_11, e_X9_ledByNight_14, e_X9_ledByNight_17, e_X9_ledByNight_18, e_X9_ledByNight_22, e_X9_ledByNight_25, e_X9_ledByNight_26, e_X9_ledByNight_27, e_X9_ledByNight_30, e_X9_ledByNight_33, e_X9_ledByNight_34, cO_34 hY, cg_34_7 hY, cO_35 hY, cg_35_1 hY, cO_36 hY, cg_36_1 hY, rP_n, rS_n, xrd_rP, xrd_rS, xfit_rP, xfit_rS, xcat_rP, xcat_rS, nem, su_get, z1e0, z2e0, z3e0, z4e0, z5e0, z0e1, zme0, Nat.reduceEqDiff, not_true_eq_false, and_self, false_or, or_false, or_self,  bI_eq0, bI_eq1, i10, i20, i30, i00, ne_eq, Decidable.not_not, true_and, and_true, false_and, and_false, xrd_ref, xrd_null, xrd_rf, xid_int, xcat_int, xcat_ref, xcat_null, xcat_long, xcat_rf, xfit_int, xfit_0, xfit_1, xfit_ref, xfit_null, xfit_rf, not_false_eq_true, ↓reduceIte, z01_0, z01_1, bI_01, true_or, or_true, c_X9_ledByNight_4 (cO_34 hY hx) k1, c_X9_ledByNight_19 k2, h2, hx, hW, nI_add, nI_1]
      exact ih (i + 1) (by omega)
theorem cd_night {x W E : Nat} {a1 : Option Value} (hY : zok g A z P S) (hx : x < S) (hW : s 27 x = nI W) (hE : 1 + s 21 x / 100 = nI E) (hWE : W + E < 2 ^ 31) : Ev g 102 0 [some (.ref (A 34 x)), a1] [] (cp A z s o) (.inl (some (.int (ntS E W 0))), cp A z s o) := by
  have := lp_cnight (g := g) (s := s) (o := o) hY hx hW hE hWE E 0 (by omega)
  rw [nI_0, Nat.add_zero] at this
  simp only [e_X9_ledByNight_0, e_X9_ledByNight_1, nem, su_get, z1e0, z2e0, z3e0, z4e0, z5e0, z0e1, zme0, Nat.reduceEqDiff, not_true_eq_false, and_self, false_or, or_false, or_self,  bI_eq0, bI_eq1, i10, i20, i30, i00, ne_eq, Decidable.not_not, true_and, and_true, false_and, and_false, xrd_ref, xrd_null, xrd_rf, xid_int, xcat_int, xcat_ref, xcat_null, xcat_long, xcat_rf, xfit_int, xfit_0, xfit_1, xfit_ref, xfit_null, xfit_rf, not_false_eq_true, ↓reduceIte, z01_0, z01_1, bI_01, true_or, or_true]
  exact this
/-- own state behind the end of a duty -/
def edO (s o : mS) (p x : Nat) (e : Int32) : mS := if s 20 x = 0 ∨ s 40 0 = 0 then su o 64 p e else su o 65 p (e + s 40 0)
/-- the class's order of the same writes -/
def ed1 (s : mS) (p x : Nat) (c : Int32) : mS := if c = 0 then s else su (su s 11 p (s 11 p + 1)) 12 p (s 12 p + (1 + s 21 x / 100))
def ed2 (s : mS) (p : Nat) (e nt : Int32) : mS := su (su s 10 p (e + (s 41 0 + (if nt = 0 then 0 else s 42 0) + (if ¬ s 15 p = -1 ∧ e - s 15 p < 24 then s 43 0 else 0)))) 15 p e
def ed3 (s : mS) (p x : Nat) : mS := su (su s 8 p (if s 20 x = 0 then 1 else if s 40 0 = 0 then 0 else 3)) 13 p (-1)
theorem ed_eq (s : mS) (p x : Nat) (c : Int32) (W E : Nat) : ∀ F j, F ≠ 9 → F ≠ 14 → ed3 (ed2 (ed1 s p x c) p (nI (W + E)) (ntS E W 0)) p x F j = f_through s p x c W E F j := by
  intro F j h9 h14
  have a5 : ∀ (s : mS) e, t5S s p x e F j = s F j := fun s e => by
    unfold t5S
    split
    · exact su_other _ _ h9
    · exact su_other _ _ h14
  unfold f_through
  rw [a5]
  by_cases hc : c = 0
  · simp only [ed1, ed2, ed3, t1S, t2S, t3S, t4S, hc, if_true, su_get]
    by_cases hj : j = p
    · subst hj
      by_cases f8 : F = 8
      · subst f8; simp
      · by_cases f10 : F = 10
        · subst f10; simp [Int32.add_assoc]
        · by_cases f13 : F = 13
          · subst f13; simp
          · by_cases f15 : F = 15
            · subst f15; simp
            · simp [f8, f10, f13, f15]
    · simp [hj]
  · simp only [ed1, ed2, ed3, t1S, t2S, t3S, t4S, hc, if_false, su_get]
    by_cases hj : j = p
    · subst hj
      by_cases f8 : F = 8
      · subst f8; simp
      · by_cases f10 : F = 10
        · subst f10; simp [Int32.add_assoc]
        · by_cases f13 : F = 13
          · subst f13; simp
          · by_cases f15 : F = 15
            · subst f15; simp
            · by_cases f11 : F = 11
              · subst f11; simp
              · by_cases f12 : F = 12
                · subst f12; simp
                · simp [f8, f10, f13, f15, f11, f12]
    · simp [hj]
theorem cp_914 (hY : zok g A z P S) (h : ∀ F j, F ≠ 9 → F ≠ 14 → s' F j = s F j) : cp A z s' o = cp A z s o := by
  refine cp_congr (fun F j e => h F j ?_ ?_) (fun _ _ _ => rfl) hY
  · rintro rfl; exact e rfl
  · rintro rfl; exact e rfl
theorem cd_endDuty {x p W E : Nat} {c : Int32} {a3 a4 : Option Value} (hY : zok g A z P S) (hx : x < S) (hp : p < P) (hW : s 27 x = nI W) (hE : 1 + s 21 x / 100 = nI E) (hWE : W + E < 2 ^ 31) (hH : s 1 0 = nI (W + E)) (h30 : pmP P (s 30 x)) (hc : c = 0 ↔ s 30 x = nI p) : Ev g 101 0 [some (.ref (A 0 0)), some (.ref (A 34 x)), some (rP A (nI p)), a3, a4] [] (cp A z s o) (.inl none, cp A z (f_through s p x c W E) (edO s o p x (nI (W + E)))) := by
  have h6 := hY.2.2.2.2.2.1.1
  have fin : ∀ o, cp A z (f_through s p x c W E) o = cp A z (ed3 (ed2 (ed1 s p x c) p (nI (W + E)) (ntS E W 0)) p x) o := fun o => (cp_914 hY (ed_eq s p x c W E)).symm
  rw [fin, rP_r (by omega)]
  -- turns and hours
  have s1 : ∀ {out : xR}, Ev g 101 0 [some (.ref (A 0 0)), some (.ref (A 34 x)), some (.ref (A 30 p)), a3, a4] [] (cp A z s o) out = Ev g 101 44 [some (.ref (A 0 0)), some (.ref (A 34 x)), some (.ref (A 30 p)), some (.ref (A 31 p)), a4] [] (cp A z (ed1 s p x c) o) out := by
    intro out
    have k1 := cd_led (g := g) (s := su s 11 p (s 11 p + 1)) (o := o) hY hx
    rw [su_other _ _ (by decide)] at k1
    by_cases e : s 30 x = nI p
    · have c0 := hc.mpr e
      subst c0
      simp only [e_X9_endDuty_0, e_X9_endDuty_1n, e_X9_endDuty_1, e_X9_endDuty_4, e_X9_endDuty_5, e_X9_endDuty_6, e_X9_endDuty_9, e_X9_endDuty_10, e_X9_endDuty_11, e_X9_endDuty_12, e_X9_endDuty_15, e_X9_endDuty_18, e_X9_endDuty_21, e_X9_endDuty_22, e_X9_endDuty_23, e_X9_endDuty_26, e_X9_endDuty_27, e_X9_endDuty_28, e_X9_endDuty_31, e_X9_endDuty_32, e_X9_endDuty_33, e_X9_endDuty_36, e_X9_endDuty_40, e_X9_endDuty_41, cO_30 hY, cg_30_4 hY, cO_34 hY, cg_34_7 hY, cO_35 hY, cg_35_4 hY, cO_36 hY, cg_36_4 hY, cO_31 hY, cg_31_5 hY, cO_32 hY, cg_32_5 hY, hb_31 hY, cw_31_5 hY, hb_32 hY, cw_32_5 hY, cg_31_6 hY, cg_32_6 hY, cw_31_6 hY, cw_32_6 hY, cg_31_4 hY, cg_32_4 hY, cO_0 hY, cg_0_10 hY, cg_0_5 hY, cw_31_3 hY, cw_32_3 hY, cw_31_4 hY, cw_32_4 hY, cg_34_1 hY, cg_0_11 hY, rP_n, rS_n, xrd_rP, xrd_rS, xfit_rP, xfit_rS, xcat_rP, xcat_rS, nem, su_get, z1e0, z2e0, z3e0, z4e0, z5e0, z0e1, zme0, Nat.reduceEqDiff, not_true_eq_false, and_self, false_or, or_false, or_self,  bI_eq0, bI_eq1, i10, i20, i30, i00, ne_eq, Decidable.not_not, true_and, and_true, false_and, and_false, xrd_ref, xrd_null, xrd_rf, xid_int, xcat_int, xcat_ref, xcat_null, xcat_long, xcat_rf, xfit_int, xfit_0, xfit_1, xfit_ref, xfit_null, xfit_rf, not_false_eq_true, ↓reduceIte, z01_0, z01_1, bI_01, true_or, or_true, hx, hp, e, rP_r (show p < 2 ^ 31 by omega), ed1]
    · have c0 : ¬ c = 0 := fun q => e (hc.mp q)
      have nr : ¬ (Value.ref (A 30 p) = rP A (s 30 x)) := by
        rcases h30 with q | ⟨q, hq, q2⟩
        · rw [q, rP_n]; exact fun w => by cases w
        · rw [q2, rP_r (by omega)]
          intro w
          have := (A_inj hY hp hq).mp (Value.ref.inj w)
          exact e (by rw [this, q2])
      simp only [e_X9_endDuty_0, e_X9_endDuty_1n, e_X9_endDuty_1, e_X9_endDuty_4, e_X9_endDuty_5, e_X9_endDuty_6, e_X9_endDuty_9, e_X9_endDuty_10, e_X9_endDuty_11, e_X9_endDuty_12, e_X9_endDuty_15, e_X9_endDuty_18, e_X9_endDuty_21, e_X9_endDuty_22, e_X9_endDuty_23, e_X9_endDuty_26, e_X9_endDuty_27, e_X9_endDuty_28, e_X9_endDuty_31, e_X9_endDuty_32, e_X9_endDuty_33, e_X9_endDuty_36, e_X9_endDuty_40, e_X9_endDuty_41, cO_30 hY, cg_30_4 hY, cO_34 hY, cg_34_7 hY, cO_35 hY, cg_35_4 hY, cO_36 hY, cg_36_4 hY, cO_31 hY, cg_31_5 hY, cO_32 hY, cg_32_5 hY, hb_31 hY, cw_31_5 hY, hb_32 hY, cw_32_5 hY, cg_31_6 hY, cg_32_6 hY, cw_31_6 hY, cw_32_6 hY, cg_31_4 hY, cg_32_4 hY, cO_0 hY, cg_0_10 hY, cg_0_5 hY, cw_31_3 hY, cw_32_3 hY, cw_31_4 hY, cw_32_4 hY, cg_34_1 hY, cg_0_11 hY, rP_n, rS_n, xrd_rP, xrd_rS, xfit_rP, xfit_rS, xcat_rP, xcat_rS, nem, su_get, z1e0, z2e0, z3e0, z4e0, z5e0, z0e1, zme0, Nat.reduceEqDiff, not_true_eq_false, and_self, false_or, or_false, or_self,  bI_eq0, bI_eq1, i10, i20, i30, i00, ne_eq, Decidable.not_not, true_and, and_true, false_and, and_false, xrd_ref, xrd_null, xrd_rf, xid_int, xcat_int, xcat_ref, xcat_null, xcat_long, xcat_rf, xfit_int, xfit_0, xfit_1, xfit_ref, xfit_null, xfit_rf, not_false_eq_true, ↓reduceIte, z01_0, z01_1, bI_01, true_or, or_true, hx, hp, nr, ed1, c0, c_X9_endDuty_37 _ (cO_34 hY hx) k1]
  rw [s1]
  have o1 : ∀ F j, F ≠ 11 → F ≠ 12 → ed1 s p x c F j = s F j := fun F j h1 h2 => by
    unfold ed1
    split
    · rfl
    · rw [su_other _ _ h2, su_other _ _ h1]
  have e1 : edO s o p x (nI (W + E)) = edO (ed1 s p x c) o p x (nI (W + E)) := by
    unfold edO
    rw [o1 20 _ (by decide) (by decide), o1 40 _ (by decide) (by decide)]
  rw [e1]
  generalize ed1 s p x c = s2 at o1
  have hW2 : s2 27 x = nI W := by rw [o1 _ _ (by decide) (by decide)]; exact hW
  have hE2 : 1 + s2 21 x / 100 = nI E := by rw [o1 _ _ (by decide) (by decide)]; exact hE
  have hH2 : s2 1 0 = nI (W + E) := by rw [o1 _ _ (by decide) (by decide)]; exact hH
  have kn := cd_night (g := g) (s := s2) (o := o) (a1 := none) hY hx hW2 hE2 hWE
  have n01 := ntS_01 E W 0 (Or.inl rfl)
  generalize ntS E W 0 = nt at kn n01
  -- rest
  have s3 : ∀ {out : xR}, Ev g 101 44 [some (.ref (A 0 0)), some (.ref (A 34 x)), some (.ref (A 30 p)), some (.ref (A 31 p)), a4] [] (cp A z s2 o) out = Ev g 101 103 [some (.ref (A 0 0)), some (.ref (A 34 x)), some (.ref (A 30 p)), some (.ref (A 31 p)), some (.int (bI (¬ s2 15 p = -1 ∧ nI (W + E) - s2 15 p < 24)))] [] (cp A z (ed2 s2 p (nI (W + E)) nt) o) out := by
    intro out
    by_cases a : s2 15 p = -1
    · have kb := cd_behind (g := g) (s := s2) (o := o) (a := nt) (b := 0) hY
      simp only [e_X9_endDuty_44, e_X9_endDuty_45, e_X9_endDuty_48, e_X9_endDuty_49, e_X9_endDuty_52, e_X9_endDuty_53, e_X9_endDuty_56, e_X9_endDuty_57, e_X9_endDuty_60, e_X9_endDuty_61, e_X9_endDuty_63, e_X9_endDuty_66, e_X9_endDuty_67, e_X9_endDuty_70, e_X9_endDuty_71, e_X9_endDuty_73, e_X9_endDuty_74, e_X9_endDuty_75, e_X9_endDuty_78, e_X9_endDuty_79, e_X9_endDuty_82, e_X9_endDuty_86, e_X9_endDuty_91, e_X9_endDuty_92, e_X9_endDuty_95, e_X9_endDuty_96, e_X9_endDuty_97, e_X9_endDuty_100, cO_30 hY, cg_30_4 hY, cO_34 hY, cg_34_7 hY, cO_35 hY, cg_35_4 hY, cO_36 hY, cg_36_4 hY, cO_31 hY, cg_31_5 hY, cO_32 hY, cg_32_5 hY, hb_31 hY, cw_31_5 hY, hb_32 hY, cw_32_5 hY, cg_31_6 hY, cg_32_6 hY, cw_31_6 hY, cw_32_6 hY, cg_31_4 hY, cg_32_4 hY, cO_0 hY, cg_0_10 hY, cg_0_5 hY, cw_31_3 hY, cw_32_3 hY, cw_31_4 hY, cw_32_4 hY, cg_34_1 hY, cg_0_11 hY, rP_n, rS_n, xrd_rP, xrd_rS, xfit_rP, xfit_rS, xcat_rP, xcat_rS, nem, su_get, z1e0, z2e0, z3e0, z4e0, z5e0, z0e1, zme0, Nat.reduceEqDiff, not_true_eq_false, and_self, false_or, or_false, or_self,  bI_eq0, bI_eq1, i10, i20, i30, i00, ne_eq, Decidable.not_not, true_and, and_true, false_and, and_false, xrd_ref, xrd_null, xrd_rf, xid_int, xcat_int, xcat_ref, xcat_null, xcat_long, xcat_rf, xfit_int, xfit_0, xfit_1, xfit_ref, xfit_null, xfit_rf, not_false_eq_true, ↓reduceIte, z01_0, z01_1, bI_01, true_or, or_true, hx, hp, a, hH2, c_X9_endDuty_83 _ _ _ kn, c_X9_endDuty_88 _ (cO_18 hY) kb, ed2, bI]
    · by_cases b : nI (W + E) - s2 15 p < 24
      · have b' : ¬ 24 ≤ nI (W + E) - s2 15 p := Int32.not_le.mpr b
        have kb := cd_behind (g := g) (s := s2) (o := o) (a := nt) (b := 1) hY
        simp only [e_X9_endDuty_44, e_X9_endDuty_45, e_X9_endDuty_48, e_X9_endDuty_49, e_X9_endDuty_52, e_X9_endDuty_53, e_X9_endDuty_56, e_X9_endDuty_57, e_X9_endDuty_60, e_X9_endDuty_61, e_X9_endDuty_63, e_X9_endDuty_66, e_X9_endDuty_67, e_X9_endDuty_70, e_X9_endDuty_71, e_X9_endDuty_73, e_X9_endDuty_74, e_X9_endDuty_75, e_X9_endDuty_78, e_X9_endDuty_79, e_X9_endDuty_82, e_X9_endDuty_86, e_X9_endDuty_91, e_X9_endDuty_92, e_X9_endDuty_95, e_X9_endDuty_96, e_X9_endDuty_97, e_X9_endDuty_100, cO_30 hY, cg_30_4 hY, cO_34 hY, cg_34_7 hY, cO_35 hY, cg_35_4 hY, cO_36 hY, cg_36_4 hY, cO_31 hY, cg_31_5 hY, cO_32 hY, cg_32_5 hY, hb_31 hY, cw_31_5 hY, hb_32 hY, cw_32_5 hY, cg_31_6 hY, cg_32_6 hY, cw_31_6 hY, cw_32_6 hY, cg_31_4 hY, cg_32_4 hY, cO_0 hY, cg_0_10 hY, cg_0_5 hY, cw_31_3 hY, cw_32_3 hY, cw_31_4 hY, cw_32_4 hY, cg_34_1 hY, cg_0_11 hY, rP_n, rS_n, xrd_rP, xrd_rS, xfit_rP, xfit_rS, xcat_rP, xcat_rS, nem, su_get, z1e0, z2e0, z3e0, z4e0, z5e0, z0e1, zme0, Nat.reduceEqDiff, not_true_eq_false, and_self, false_or, or_false, or_self,  bI_eq0, bI_eq1, i10, i20, i30, i00, ne_eq, Decidable.not_not, true_and, and_true, false_and, and_false, xrd_ref, xrd_null, xrd_rf, xid_int, xcat_int, xcat_ref, xcat_null, xcat_long, xcat_rf, xfit_int, xfit_0, xfit_1, xfit_ref, xfit_null, xfit_rf, not_false_eq_true, ↓reduceIte, z01_0, z01_1, bI_01, true_or, or_true, hx, hp, a, b, b', hH2, c_X9_endDuty_83 _ _ _ kn, c_X9_endDuty_88 _ (cO_18 hY) kb, ed2, bI]
      · have b' : 24 ≤ nI (W + E) - s2 15 p := Int32.not_lt.mp b
        have kb := cd_behind (g := g) (s := s2) (o := o) (a := nt) (b := 0) hY
        simp only [e_X9_endDuty_44, e_X9_endDuty_45, e_X9_endDuty_48, e_X9_endDuty_49, e_X9_endDuty_52, e_X9_endDuty_53, e_X9_endDuty_56, e_X9_endDuty_57, e_X9_endDuty_60, e_X9_endDuty_61, e_X9_endDuty_63, e_X9_endDuty_66, e_X9_endDuty_67, e_X9_endDuty_70, e_X9_endDuty_71, e_X9_endDuty_73, e_X9_endDuty_74, e_X9_endDuty_75, e_X9_endDuty_78, e_X9_endDuty_79, e_X9_endDuty_82, e_X9_endDuty_86, e_X9_endDuty_91, e_X9_endDuty_92, e_X9_endDuty_95, e_X9_endDuty_96, e_X9_endDuty_97, e_X9_endDuty_100, cO_30 hY, cg_30_4 hY, cO_34 hY, cg_34_7 hY, cO_35 hY, cg_35_4 hY, cO_36 hY, cg_36_4 hY, cO_31 hY, cg_31_5 hY, cO_32 hY, cg_32_5 hY, hb_31 hY, cw_31_5 hY, hb_32 hY, cw_32_5 hY, cg_31_6 hY, cg_32_6 hY, cw_31_6 hY, cw_32_6 hY, cg_31_4 hY, cg_32_4 hY, cO_0 hY, cg_0_10 hY, cg_0_5 hY, cw_31_3 hY, cw_32_3 hY, cw_31_4 hY, cw_32_4 hY, cg_34_1 hY, cg_0_11 hY, rP_n, rS_n, xrd_rP, xrd_rS, xfit_rP, xfit_rS, xcat_rP, xcat_rS, nem, su_get, z1e0, z2e0, z3e0, z4e0, z5e0, z0e1, zme0, Nat.reduceEqDiff, not_true_eq_false, and_self, false_or, or_false, or_self,  bI_eq0, bI_eq1, i10, i20, i30, i00, ne_eq, Decidable.not_not, true_and, and_true, false_and, and_false, xrd_ref, xrd_null, xrd_rf, xid_int, xcat_int, xcat_ref, xcat_null, xcat_long, xcat_rf, xfit_int, xfit_0, xfit_1, xfit_ref, xfit_null, xfit_rf, not_false_eq_true, ↓reduceIte, z01_0, z01_1, bI_01, true_or, or_true, hx, hp, a, b, b', hH2, c_X9_endDuty_83 _ _ _ kn, c_X9_endDuty_88 _ (cO_18 hY) kb, ed2, bI]
  rw [s3]
  have o3 : ∀ F j, F ≠ 10 → F ≠ 15 → ed2 s2 p (nI (W + E)) nt F j = s2 F j := fun F j h1 h2 => by
    unfold ed2
    rw [su_other _ _ h2, su_other _ _ h1]
  have e2 : edO s2 o p x (nI (W + E)) = edO (ed2 s2 p (nI (W + E)) nt) o p x (nI (W + E)) := by
    unfold edO
    rw [o3 20 _ (by decide) (by decide), o3 40 _ (by decide) (by decide)]
  rw [e2]
  generalize ed2 s2 p (nI (W + E)) nt = s4 at o3
  have hH4 : s4 1 0 = nI (W + E) := by rw [o3 _ _ (by decide) (by decide)]; exact hH2
  by_cases a : s4 20 x = 0
  · have k1 := cd_stayAt (g := g) (s := s4) (o := o) (a := 1) (t := nI (W + E)) hY hp
    simp only [e_X9_endDuty_103, e_X9_endDuty_104, e_X9_endDuty_107, e_X9_endDuty_110, e_X9_endDuty_111, e_X9_endDuty_112, e_X9_endDuty_113, e_X9_endDuty_119, e_X9_endDuty_122, e_X9_endDuty_123, e_X9_endDuty_126, e_X9_endDuty_129, e_X9_endDuty_130, e_X9_endDuty_131, e_X9_endDuty_132, e_X9_endDuty_138, e_X9_endDuty_141, e_X9_endDuty_142, e_X9_endDuty_143, e_X9_endDuty_146, e_X9_endDuty_147, e_X9_endDuty_150, e_X9_endDuty_154, cO_30 hY, cg_30_4 hY, cO_34 hY, cg_34_7 hY, cO_35 hY, cg_35_4 hY, cO_36 hY, cg_36_4 hY, cO_31 hY, cg_31_5 hY, cO_32 hY, cg_32_5 hY, hb_31 hY, cw_31_5 hY, hb_32 hY, cw_32_5 hY, cg_31_6 hY, cg_32_6 hY, cw_31_6 hY, cw_32_6 hY, cg_31_4 hY, cg_32_4 hY, cO_0 hY, cg_0_10 hY, cg_0_5 hY, cw_31_3 hY, cw_32_3 hY, cw_31_4 hY, cw_32_4 hY, cg_34_1 hY, cg_0_11 hY, rP_n, rS_n, xrd_rP, xrd_rS, xfit_rP, xfit_rS, xcat_rP, xcat_rS, nem, su_get, z1e0, z2e0, z3e0, z4e0, z5e0, z0e1, zme0, Nat.reduceEqDiff, not_true_eq_false, and_self, false_or, or_false, or_self,  bI_eq0, bI_eq1, i10, i20, i30, i00, ne_eq, Decidable.not_not, true_and, and_true, false_and, and_false, xrd_ref, xrd_null, xrd_rf, xid_int, xcat_int, xcat_ref, xcat_null, xcat_long, xcat_rf, xfit_int, xfit_0, xfit_1, xfit_ref, xfit_null, xfit_rf, not_false_eq_true, ↓reduceIte, z01_0, z01_1, bI_01, true_or, or_true, hx, hp, a, hH4, c_X9_endDuty_116 (cO_31 hY hp) k1, ed3, edO]
  · by_cases b : s4 40 0 = 0
    · have k1 := cd_stayAt (g := g) (s := s4) (o := o) (a := 0) (t := nI (W + E)) hY hp
      simp only [e_X9_endDuty_103, e_X9_endDuty_104, e_X9_endDuty_107, e_X9_endDuty_110, e_X9_endDuty_111, e_X9_endDuty_112, e_X9_endDuty_113, e_X9_endDuty_119, e_X9_endDuty_122, e_X9_endDuty_123, e_X9_endDuty_126, e_X9_endDuty_129, e_X9_endDuty_130, e_X9_endDuty_131, e_X9_endDuty_132, e_X9_endDuty_138, e_X9_endDuty_141, e_X9_endDuty_142, e_X9_endDuty_143, e_X9_endDuty_146, e_X9_endDuty_147, e_X9_endDuty_150, e_X9_endDuty_154, cO_30 hY, cg_30_4 hY, cO_34 hY, cg_34_7 hY, cO_35 hY, cg_35_4 hY, cO_36 hY, cg_36_4 hY, cO_31 hY, cg_31_5 hY, cO_32 hY, cg_32_5 hY, hb_31 hY, cw_31_5 hY, hb_32 hY, cw_32_5 hY, cg_31_6 hY, cg_32_6 hY, cw_31_6 hY, cw_32_6 hY, cg_31_4 hY, cg_32_4 hY, cO_0 hY, cg_0_10 hY, cg_0_5 hY, cw_31_3 hY, cw_32_3 hY, cw_31_4 hY, cw_32_4 hY, cg_34_1 hY, cg_0_11 hY, rP_n, rS_n, xrd_rP, xrd_rS, xfit_rP, xfit_rS, xcat_rP, xcat_rS, nem, su_get, z1e0, z2e0, z3e0, z4e0, z5e0, z0e1, zme0, Nat.reduceEqDiff, not_true_eq_false, and_self, false_or, or_false, or_self,  bI_eq0, bI_eq1, i10, i20, i30, i00, ne_eq, Decidable.not_not, true_and, and_true, false_and, and_false, xrd_ref, xrd_null, xrd_rf, xid_int, xcat_int, xcat_ref, xcat_null, xcat_long, xcat_rf, xfit_int, xfit_0, xfit_1, xfit_ref, xfit_null, xfit_rf, not_false_eq_true, ↓reduceIte, z01_0, z01_1, bI_01, true_or, or_true, hx, hp, a, b, hH4, c_X9_endDuty_135 (cO_31 hY hp) k1, ed3, edO]
    · have k1 := cd_takeRoad (g := g) (s := s4) (o := o) (t := nI (W + E) + s4 40 0) hY hp
      simp only [e_X9_endDuty_103, e_X9_endDuty_104, e_X9_endDuty_107, e_X9_endDuty_110, e_X9_endDuty_111, e_X9_endDuty_112, e_X9_endDuty_113, e_X9_endDuty_119, e_X9_endDuty_122, e_X9_endDuty_123, e_X9_endDuty_126, e_X9_endDuty_129, e_X9_endDuty_130, e_X9_endDuty_131, e_X9_endDuty_132, e_X9_endDuty_138, e_X9_endDuty_141, e_X9_endDuty_142, e_X9_endDuty_143, e_X9_endDuty_146, e_X9_endDuty_147, e_X9_endDuty_150, e_X9_endDuty_154, cO_30 hY, cg_30_4 hY, cO_34 hY, cg_34_7 hY, cO_35 hY, cg_35_4 hY, cO_36 hY, cg_36_4 hY, cO_31 hY, cg_31_5 hY, cO_32 hY, cg_32_5 hY, hb_31 hY, cw_31_5 hY, hb_32 hY, cw_32_5 hY, cg_31_6 hY, cg_32_6 hY, cw_31_6 hY, cw_32_6 hY, cg_31_4 hY, cg_32_4 hY, cO_0 hY, cg_0_10 hY, cg_0_5 hY, cw_31_3 hY, cw_32_3 hY, cw_31_4 hY, cw_32_4 hY, cg_34_1 hY, cg_0_11 hY, rP_n, rS_n, xrd_rP, xrd_rS, xfit_rP, xfit_rS, xcat_rP, xcat_rS, nem, su_get, z1e0, z2e0, z3e0, z4e0, z5e0, z0e1, zme0, Nat.reduceEqDiff, not_true_eq_false, and_self, false_or, or_false, or_self,  bI_eq0, bI_eq1, i10, i20, i30, i00, ne_eq, Decidable.not_not, true_and, and_true, false_and, and_false, xrd_ref, xrd_null, xrd_rf, xid_int, xcat_int, xcat_ref, xcat_null, xcat_long, xcat_rf, xfit_int, xfit_0, xfit_1, xfit_ref, xfit_null, xfit_rf, not_false_eq_true, ↓reduceIte, z01_0, z01_1, bI_01, true_or, or_true, hx, hp, a, b, hH4, c_X9_endDuty_151 (cO_31 hY hp) k1, ed3, edO]
theorem cd_endDuty0 {x : Nat} {a3 a4 : Option Value} : Ev g 101 0 [some (.ref (A 0 0)), some (.ref (A 34 x)), some (rP A (-1)), a3, a4] [] (cp A z s o) (.inl none, cp A z s o) := by
  simp only [e_X9_endDuty_0, e_X9_endDuty_1n, e_X9_endDuty_1, e_X9_endDuty_4, e_X9_endDuty_5, e_X9_endDuty_6, e_X9_endDuty_9, e_X9_endDuty_10, e_X9_endDuty_11, e_X9_endDuty_12, e_X9_endDuty_15, e_X9_endDuty_18, e_X9_endDuty_21, e_X9_endDuty_22, e_X9_endDuty_23, e_X9_endDuty_26, e_X9_endDuty_27, e_X9_endDuty_28, e_X9_endDuty_31, e_X9_endDuty_32, e_X9_endDuty_33, e_X9_endDuty_36, e_X9_endDuty_40, e_X9_endDuty_41, e_X9_endDuty_44, e_X9_endDuty_45, e_X9_endDuty_48, e_X9_endDuty_49, e_X9_endDuty_52, e_X9_endDuty_53, e_X9_endDuty_56, e_X9_endDuty_57, e_X9_endDuty_60, e_X9_endDuty_61, e_X9_endDuty_63, e_X9_endDuty_66, e_X9_endDuty_67, e_X9_endDuty_70, e_X9_endDuty_71, e_X9_endDuty_73, e_X9_endDuty_74, e_X9_endDuty_75, e_X9_endDuty_78, e_X9_endDuty_79, e_X9_endDuty_82, e_X9_endDuty_86, e_X9_endDuty_91, e_X9_endDuty_92, e_X9_endDuty_95, e_X9_endDuty_96, e_X9_endDuty_97, e_X9_endDuty_100, e_X9_endDuty_103, e_X9_endDuty_104, e_X9_endDuty_107, e_X9_endDuty_110, e_X9_endDuty_111, e_X9_endDuty_112, e_X9_endDuty_113, e_X9_endDuty_119, e_X9_endDuty_122, e_X9_endDuty_123, e_X9_endDuty_126, e_X9_endDuty_129, e_X9_endDuty_130, e_X9_endDuty_131, e_X9_endDuty_132, e_X9_endDuty_138, e_X9_endDuty_141, e_X9_endDuty_142, e_X9_endDuty_143, e_X9_endDuty_146, e_X9_endDuty_147, e_X9_endDuty_150, e_X9_endDuty_154, rP_n, nem, su_get, z1e0, z2e0, z3e0, z4e0, z5e0, z0e1, zme0, Nat.reduceEqDiff, not_true_eq_false, and_self, false_or, or_false, or_self,  bI_eq0, bI_eq1, i10, i20, i30, i00, ne_eq, Decidable.not_not, true_and, and_true, false_and, and_false, xrd_ref, xrd_null, xrd_rf, xid_int, xcat_int, xcat_ref, xcat_null, xcat_long, xcat_rf, xfit_int, xfit_0, xfit_1, xfit_ref, xfit_null, xfit_rf, not_false_eq_true, ↓reduceIte, z01_0, z01_1, bI_01, true_or, or_true]
end CD2
