/-! ===== the class's back ===== -/
/-- three, as the reference holds them beside; their places are told apart -/
def bI3 (s o : mS) (c : Nat → Int32) (P L : Nat) : Prop := bOK s c P L ∧ (∀ j p, j < 3 → p < P → c j = nI p → o 66 p = s 16 p) ∧ (∀ i j p q, i < 3 → j < 3 → p < P → q < P → c i = nI p → c j = nI q → s 16 p = s 16 q → p = q)
theorem bkB_min {s : mS} {c : Nat → Int32} {P : Nat} (hP : P ≤ 60) (hc : ∀ j, j < 3 → c j = -1 ∨ ∃ p b, p < P ∧ c j = nI p ∧ b < 60 ∧ s 16 p = nI b) : ∀ (f i : Nat) (b : Int32), i + f = 3 → (b = -1 ∧ (∀ j, j < i → c j = -1) ∨ ∃ k, k < i ∧ b = nI k ∧ ¬ c k = -1 ∧ ∀ j, j < i → ¬ c j = -1 → (s 16 (c k).toNatClampNeg).toInt ≤ (s 16 (c j).toNatClampNeg).toInt) → (bkB s c f i b = -1 ∧ (∀ j, j < 3 → c j = -1) ∨ ∃ k, k < 3 ∧ bkB s c f i b = nI k ∧ ¬ c k = -1 ∧ ∀ j, j < 3 → ¬ c j = -1 → (s 16 (c k).toNatClampNeg).toInt ≤ (s 16 (c j).toNatClampNeg).toInt) := by
  intro f
  induction f with
  | zero =>
    intro i b hi h
    have : i = 3 := by omega
    subst this
    exact h
  | succ f ih =>
    intro i b hi h
    rw [bkB]
    by_cases n : c i = -1
    · rw [if_neg (fun q => q.1 n)]
      refine ih (i + 1) b (by omega) ?_
      rcases h with ⟨h1, h2⟩ | ⟨k, h1, h2, h3, h4⟩
      · refine Or.inl ⟨h1, fun j hj => ?_⟩
        by_cases e : j = i
        · rw [e]; exact n
        · exact h2 j (by omega)
      · refine Or.inr ⟨k, by omega, h2, h3, fun j hj hn => ?_⟩
        by_cases e : j = i
        · rw [e] at hn; exact absurd n hn
        · exact h4 j (by omega) hn
    · rcases h with ⟨h1, h2⟩ | ⟨k, h1, h2, h3, h4⟩
      · rw [if_pos ⟨n, Or.inl h1⟩]
        refine ih (i + 1) (nI i) (by omega) (Or.inr ⟨i, by omega, rfl, n, fun j hj hn => ?_⟩)
        by_cases e : j = i
        · rw [e]; exact Int.le_refl _
        · exact absurd (h2 j (by omega)) hn
      · have nk : ¬ b = -1 := by rw [h2]; exact nI_nm1 (by omega)
        have ck : b.toNatClampNeg = k := by rw [h2, nI_clamp (by omega)]
        by_cases w : s 16 (c i).toNatClampNeg < s 16 (c k).toNatClampNeg
        · rw [if_pos ⟨n, Or.inr (by rw [ck]; exact w)⟩]
          refine ih (i + 1) (nI i) (by omega) (Or.inr ⟨i, by omega, rfl, n, fun j hj hn => ?_⟩)
          by_cases e : j = i
          · rw [e]; exact Int.le_refl _
          · have := h4 j (by omega) hn
            rw [Int32.lt_iff_toInt_lt] at w
            omega
        · rw [if_neg (fun q => q.2.elim nk (fun r => w (by rw [ck] at r; exact r)))]
          refine ih (i + 1) b (by omega) (Or.inr ⟨k, by omega, h2, h3, fun j hj hn => ?_⟩)
          by_cases e : j = i
          · rw [e, Int32.lt_iff_toInt_lt] at *
            omega
          · exact h4 j (by omega) hn
