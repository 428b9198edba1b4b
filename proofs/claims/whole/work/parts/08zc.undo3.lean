/-! ===== what undo brings back ===== -/
section SZ
variable {s o s0 o0 o' : mS} {P S L L0 T B : Nat}
theorem core_undo (h52 : ¬ s 52 0 = 0) (hw : was s s0) (hP6 : P ≤ 60) (hS4 : S ≤ 400) (hc : core s0 o0 P S L0 T) (ho : ∀ p, p < P → o' 64 p = o0 64 p ∧ o' 65 p = o0 65 p ∧ o' 66 p = o0 66 p) : core (f_undo s) o' P S L0 T := by
  obtain ⟨u1, u2, u3, -⟩ := undo_v h52 hw
  have hL := hc.1.2.1
  refine core_in (fun F p hp q => u1 F p (by omega) (by omega) (by omega)) (fun F x hx q => u3 F x (by omega) (by omega) (by omega)) u2 (fun j hj => u1 17 j (by decide) (by decide) (by omega)) (fun F p hp q => ?_) hc
  obtain ⟨a, b, c⟩ := ho p hp
  obtain rfl | rfl | rfl : F = 64 ∨ F = 65 ∨ F = 66 := by omega
  · exact a
  · exact b
  · exact c
theorem stat_undo (h52 : ¬ s 52 0 = 0) (hw : was s s0) (hs : stat s o P S B) (ho : ∀ F j, F = 61 ∨ F = 62 ∨ F = 93 → o' F j = o F j) : stat (f_undo s) o' P S B := by
  obtain ⟨-, -, -, -, -, -, u7, -⟩ := undo_v h52 hw
  exact stat_cg (fun F j q => u7 F j (by omega)) ho (tOK_cg (fun F j q => u7 F j (by omega)) hs.1.2.2) hs
theorem stat_fswap {x y : Int32} (hs : stat s o P S B) : stat (f_swap s x y) o P S B := by
  have h : ∀ F j, F ≠ 0 → F ≠ 13 → F ≠ 28 → f_swap s x y F j = s F j := by
    intro F j h0 h1 h2
    unfold f_swap
    split
    · split
      · simp only [w_swap, su_get, h0, h1, h2, false_and, if_false]
      · simp only [su_get, h0, false_and, if_false]
    · simp only [su_get, h0, false_and, if_false]
  exact stat_cg (fun F j q => h F j (by omega) (by omega) (by omega)) (fun _ _ _ => rfl) (tOK_cg (fun F j q => h F j (by omega) (by omega) (by omega)) hs.1.2.2) hs
theorem stat_hour {s' : mS} (hs : stat s o P S B) (h : ∀ k j, ((1 < k ∧ k < 8) ∨ (18 < k ∧ k < 26) ∨ (33 < k ∧ k < 44)) → s' k j = s k j) (ho : ∀ F j, F = 61 ∨ F = 62 ∨ F = 90 ∨ F = 93 → o' F j = o F j) : stat s' o' P S B :=
  stat_cg (fun F j q => h F j (by omega)) (fun F j q => ho F j (by omega)) (tOK_cg (fun F j q => h F j (by omega)) hs.1.2.2) hs
end SZ
