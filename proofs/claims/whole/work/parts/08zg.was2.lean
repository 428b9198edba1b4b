/-! ===== what the hour keeps of what was ===== -/
section TD
variable {s : mS} {P L S B H : Nat}
theorem lsS_x : ∀ (f p : Nat) (s : mS) {k : Nat} (_ : k ≠ 8) (_ : k ≠ 17) (_ : k ≠ 18) (j : Nat), lsS H f p s k j = s k j := by
  intro f
  induction f with
  | zero => intros; rfl
  | succ f ih =>
    intro p s k h0 h1 h2 j
    rw [lsS]
    split <;> (rw [ih _ _ h0 h1 h2]; try simp only [su_get, apS, h0, h1, h2, false_and, if_false])
theorem was_hour (hP : P ≤ 60) (hS : S ≤ 400) (hl : lOK s P L) (hw : wOK s P S) : was (f_hour P L S B H s).2 s := by
  have k0 : was (f_keep (su s 0 0 0)) s := by
    have h := keep_was (su s 0 0 0)
    simp only [was, su_get, Nat.reduceEqDiff, false_and, if_false] at h ⊢
    exact h
  have eA : ∀ F j, 52 < F → hrA P L s F j = f_keep (su s 0 0 0) F j := fun F j h => by
    unfold hrA
    rw [bgS_o _ _ _ _ (by omega), su_get, if_neg (by omega)]
  have oA : ∀ {k : Nat}, k < 53 → k ≠ 16 → k ≠ 47 → k ≠ 0 → ∀ j, hrA P L s k j = s k j := fun h1 h2 h3 h4 j => hrA_o P L s h1 h2 h3 h4 j
  have oB : ∀ k j, k ≠ 49 → hrB B (hrA P L s) k j = hrA P L s k j := fun k j h => by
    unfold hrB
    rw [su_get, if_neg (by omega)]
  have l' : lOK (hrB B (hrA P L s)) P L := lOK_o hl (fun i => by rw [oB _ _ (by decide), oA (by decide) (by decide) (by decide) (by decide)]) (by rw [oB _ _ (by decide), oA (by decide) (by decide) (by decide) (by decide)])
  have w' : wOK (hrB B (hrA P L s)) P S := fun x hx => by
    rw [oB _ _ (by decide), oA (by decide) (by decide) (by decide) (by decide)]
    exact hw x hx
  have a' : hrB B (hrA P L s) 47 0 = nI 0 := by
    rw [oB _ _ (by decide)]
    unfold hrA
    rw [bgS_o _ _ _ _ (by decide), su_get, if_pos ⟨rfl, rfl⟩]
    rfl
  have q := (hrQ_keeps (H := H) hP hS l' w' a').1
  have e : ∀ F j, 52 < F → (f_hour P L S B H s).2 F j = f_keep (su s 0 0 0) F j := fun F j h => by
    unfold f_hour hrC
    show su _ 52 0 1 F j = _
    rw [su_get, if_neg (by omega), lsS_x _ _ _ (by omega) (by omega) (by omega), rdS_o _ _ _ _ (by omega), enS_o _ _ _ _ (by omega) (by omega), su_get, if_neg (by omega), gbS_o _ _ _ (by omega), q F j (by omega), oB _ _ (by omega), eA F j h]
  exact was_o k0 (e 53 0 (by decide)) (fun j => e 54 j (by decide)) (fun j => e 55 j (by decide))
end TD
