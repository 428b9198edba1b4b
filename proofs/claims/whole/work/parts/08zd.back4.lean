/-! ===== what back keeps ===== -/
section TA
variable {s o o' s0 : mS} {P S T B x : Nat}
theorem bkL_o {F : Nat} (h1 : F ≠ 8) (h2 : F ≠ 9) (h3 : F ≠ 13) (h4 : F ≠ 17) (h5 : F ≠ 18) (j : Nat) : ∀ (f : Nat) (c : Nat → Int32) (s : mS), (bkL x f c s).1 F j = s F j := by
  intro f
  induction f with
  | zero => intros; rfl
  | succ f ih =>
    intro c s
    rw [bkL]
    split
    · exact ih _ _
    · rw [ih, bkQ_o _ _ _ h1 h2 h3 h4 h5]
theorem fback_o {F : Nat} (h0 : F ≠ 0) (h1 : F ≠ 8) (h2 : F ≠ 9) (h3 : F ≠ 13) (h4 : F ≠ 17) (h5 : F ≠ 18) (h6 : F ≠ 26) (h7 : F ≠ 28) (h8 : F ≠ 29) (h9 : F ≠ 30) (j : Nat) : (f_back s x).1 F j = s F j := by
  unfold f_back
  rw [bkL_o h1 h2 h3 h4 h5]
  simp only [bkA, su_get, h0, h6, h7, h8, h9, false_and, if_false]
theorem stat_back (hs : stat s o P S B) (ho : ∀ F j, F ≠ 63 → F ≠ 64 → o' F j = o F j) : stat (f_back s x).1 o' P S B :=
  stat_cg (fun F j q => fback_o (by omega) (by omega) (by omega) (by omega) (by omega) (by omega) (by omega) (by omega) (by omega) (by omega) j) (fun F j q => ho F j (by omega) (by omega)) (tOK_cg (fun F j q => fback_o (by omega) (by omega) (by omega) (by omega) (by omega) (by omega) (by omega) (by omega) (by omega) (by omega) j) hs.1.2.2) hs
theorem was_back (h : was s s0) : was (f_back s x).1 s0 :=
  was_o h (fback_o (by decide) (by decide) (by decide) (by decide) (by decide) (by decide) (by decide) (by decide) (by decide) (by decide) 0) (fun j => fback_o (by decide) (by decide) (by decide) (by decide) (by decide) (by decide) (by decide) (by decide) (by decide) (by decide) j) (fun j => fback_o (by decide) (by decide) (by decide) (by decide) (by decide) (by decide) (by decide) (by decide) (by decide) (by decide) j)
theorem was_fswap {x y : Int32} (h : was s s0) : was (f_swap s x y) s0 := by
  have e : ∀ F j, F ≠ 0 → F ≠ 13 → F ≠ 28 → f_swap s x y F j = s F j := by
    intro F j h0 h1 h2
    unfold f_swap
    split
    · split
      · simp only [w_swap, su_get, h0, h1, h2, false_and, if_false]
      · simp only [su_get, h0, false_and, if_false]
    · simp only [su_get, h0, false_and, if_false]
  exact was_o h (e 53 0 (by decide) (by decide) (by decide)) (fun j => e 54 j (by decide) (by decide) (by decide)) (fun j => e 55 j (by decide) (by decide) (by decide))
end TA
