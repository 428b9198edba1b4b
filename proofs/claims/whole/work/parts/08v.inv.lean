/-! ===== the law's invariant, its beginning and what the setters keep ===== -/
section IV
variable {g : Nat × Nat × Nat} {A : Nat → Nat → Nat} {z : zT} {s o s' o' : mS} {P S L T B : Nat}
theorem cd_hourL {a1 : Option Value} (hY : zok g A z P S) (hs : s 1 0 = 9599) : Ev g 65 0 [some (.ref (A 0 0)), a1] [] (cp A z s o) (.inl (some (.int (-1))), cp A z (su s 0 0 0) o) := by
  have e : cp A z (su s 0 0 0) o = cp A z s o := cp_x hY (fun F j h0 _ _ _ _ => by simp only [su_get, h0, false_and, if_false])
  have n1 : ¬ (9599 : Int32) < 9599 := by decide
  rw [e]
  simp only [e_X9_hour_0, e_X9_hour_1, e_X9_hour_4, e_X9_hour_7, e_X9_hour_10, e_X9_hour_11, cO_0 hY, cg_0_10 hY, hs, n1, nem, su_get, z1e0, z2e0, z3e0, z4e0, z5e0, z0e1, zme0, Nat.reduceEqDiff, not_true_eq_false, and_self, false_or, or_false, or_self,  bI_eq0, bI_eq1, i10, i20, i30, i00, ne_eq, Decidable.not_not, true_and, and_true, false_and, and_false, xrd_ref, xrd_null, xrd_rf, xid_int, xcat_int, xcat_ref, xcat_null, xcat_long, xcat_rf, xfit_int, xfit_0, xfit_1, xfit_ref, xfit_null, xfit_rf, not_false_eq_true, ↓reduceIte, z01_0, z01_1, bI_01, true_or, or_true]
theorem core_cg (h : ∀ F j, (8 ≤ F ∧ F ≤ 18) ∨ (26 ≤ F ∧ F ≤ 30) → s' F j = s F j) (ho : ∀ F j, 64 ≤ F ∧ F ≤ 66 → o' F j = o F j) (hc : core s o P S L T) : core s' o' P S L T := by
  have e8 : s' 8 = s 8 := funext fun j => h 8 j (by omega)
  have e9 : s' 9 = s 9 := funext fun j => h 9 j (by omega)
  have e10 : s' 10 = s 10 := funext fun j => h 10 j (by omega)
  have e13 : s' 13 = s 13 := funext fun j => h 13 j (by omega)
  have e14 : s' 14 = s 14 := funext fun j => h 14 j (by omega)
  have e15 : s' 15 = s 15 := funext fun j => h 15 j (by omega)
  have e16 : s' 16 = s 16 := funext fun j => h 16 j (by omega)
  have e17 : s' 17 = s 17 := funext fun j => h 17 j (by omega)
  have e18 : s' 18 = s 18 := funext fun j => h 18 j (by omega)
  have e26 : s' 26 = s 26 := funext fun j => h 26 j (by omega)
  have e27 : s' 27 = s 27 := funext fun j => h 27 j (by omega)
  have e28 : s' 28 = s 28 := funext fun j => h 28 j (by omega)
  have e29 : s' 29 = s 29 := funext fun j => h 29 j (by omega)
  have e30 : s' 30 = s 30 := funext fun j => h 30 j (by omega)
  have f64 : o' 64 = o 64 := funext fun j => ho 64 j (by omega)
  have f65 : o' 65 = o 65 := funext fun j => ho 65 j (by omega)
  have f66 : o' 66 = o 66 := funext fun j => ho 66 j (by omega)
  simp only [core, lOK, shI, rl, dst, plI, inL, dI, cam, rod, abn, nowI, e8, e9, e10, e13, e14, e15, e16, e17, e18, e26, e27, e28, e29, e30, f64, f65, f66] at hc ⊢
  exact hc
theorem core0 : core s00 o00 0 0 0 0 := by
  refine ⟨⟨rfl, Nat.le_refl _, fun k h => absurd h (by omega), fun j k h => absurd h (by omega)⟩, fun x h => absurd h (by omega), ⟨fun p h => absurd h (by omega), fun p h => absurd h (by omega)⟩, fun x h => absurd h (by omega), ?_, fun x h => absurd h (by omega)⟩
  simp [dI, cam, rod, abn]
theorem stat0 : stat s00 o00 0 0 0 := by
  refine ⟨⟨fun p h => absurd h (by omega), fun x h => absurd h (by omega), fun d hd => ⟨⟨0, by omega, rfl⟩, ⟨fun _ => rfl, fun _ => rfl⟩⟩⟩, fun y h => absurd h (by omega), ⟨fun j h => absurd h (by omega), fun i j _ h => absurd h (by omega)⟩, fun c hc => rfl, fun p h => absurd h (by omega), fun k h => absurd h (by omega), ⟨rfl, by omega⟩⟩
end IV
