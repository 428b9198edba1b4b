/-! ===== the class's undo ===== -/
theorem cbS_at (k1 k2 a : Nat) (hk : k1 ≠ k2) : ∀ (f i : Nat) (s : mS) (j : Nat), cbS k1 k2 a f i s k2 j = if i ≤ j ∧ j < i + f then s k1 (a + j) else s k2 j := by
  intro f
  induction f with
  | zero => intro i s j; rw [cbS, if_neg (by omega)]
  | succ f ih =>
    intro i s j
    rw [cbS, ih]
    by_cases e : j = i
    · subst e
      rw [if_neg (by omega), if_pos (by omega)]
      simp [su]
    · by_cases c : i + 1 ≤ j ∧ j < i + 1 + f
      · rw [if_pos c, if_pos (by omega), su_other _ _ hk]
      · rw [if_neg c, if_neg (by omega), su_get, if_neg (fun q => e q.2)]
theorem cpS_at (k1 k2 a : Nat) (hk : k1 ≠ k2) : ∀ (f i : Nat) (s : mS) (j : Nat), cpS k1 k2 a f i s k2 j = if a + i ≤ j ∧ j < a + i + f then s k1 (j - a) else s k2 j := by
  intro f
  induction f with
  | zero => intro i s j; rw [cpS, if_neg (by omega)]
  | succ f ih =>
    intro i s j
    rw [cpS, ih]
    by_cases e : j = a + i
    · subst e
      rw [if_neg (by omega), if_pos (by omega), Nat.add_sub_cancel_left]
      simp [su]
    · by_cases c : a + (i + 1) ≤ j ∧ j < a + (i + 1) + f
      · rw [if_pos c, if_pos (by omega), su_other _ _ hk]
      · rw [if_neg c, if_neg (by omega), su_get, if_neg (fun q => e q.2)]
