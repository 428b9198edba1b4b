/-! ===== the reference's methods ===== -/
def bI (p : Prop) [Decidable p] : Int32 := if p then 1 else 0
theorem bI_01 (p : Prop) [Decidable p] : bI p = 0 ∨ bI p = 1 := by unfold bI; split <;> simp
theorem z01_0 : (0 : Int32) = 0 ∨ (0 : Int32) = 1 := Or.inl rfl
theorem z01_1 : (1 : Int32) = 0 ∨ (1 : Int32) = 1 := Or.inr rfl
section MD
variable {g : Nat × Nat × Nat} {m0 : Nat} {s : mS} {h : xH}
theorem md_thrown : Ev g 111 0 [some (.ref m0)] [] (mput m0 s h) (.inl (some (.int (s 0 0))), mput m0 s h) := by
  simp only [e_X10_thrown_0, e_X10_thrown_1, e_X10_thrown_4, mO, mg_0, mp_0, xrd_ref, xrd_null, xrd_rf, xid_int, xcat_int, xcat_ref, xcat_null, xcat_long, xcat_rf, xfit_int, xfit_0, xfit_1, xfit_ref, xfit_null, xfit_rf, not_false_eq_true, ↓reduceIte, z01_0, z01_1, bI_01, true_or, or_true]
theorem md_isIn {v lo hi : Int32} : Ev g 112 0 [some (.int v), some (.int lo), some (.int hi)] [] h (.inl (some (.int (bI (lo ≤ v ∧ v ≤ hi)))), h) := by
  simp only [e_X10_isIn_0, e_X10_isIn_1, e_X10_isIn_2, e_X10_isIn_5, e_X10_isIn_6, e_X10_isIn_7, e_X10_isIn_10, e_X10_isIn_11, e_X10_isIn_14, e_X10_isIn_15, xrd_ref, xrd_null, xrd_rf, xid_int, xcat_int, xcat_ref, xcat_null, xcat_long, xcat_rf, xfit_int, xfit_0, xfit_1, xfit_ref, xfit_null, xfit_rf, not_false_eq_true, ↓reduceIte, z01_0, z01_1, bI_01, true_or, or_true]
  split
  · rename_i a
    have : ¬ (lo ≤ v ∧ v ≤ hi) := fun q => Int32.not_le.mpr a q.1
    simp [bI, this]
  · rename_i a
    split
    · rename_i b
      have : ¬ (lo ≤ v ∧ v ≤ hi) := fun q => Int32.not_le.mpr b q.2
      simp [bI, this]
    · rename_i b
      have : lo ≤ v ∧ v ≤ hi := ⟨Int32.not_lt.mp a, Int32.not_lt.mp b⟩
      simp [bI, this]
end MD
