/-! ===== one pilot more ===== -/
def pnS (s : mS) (P : Nat) (k l d : Int32) : mS := su (su (su (su (su (su (su s 3 P k) 4 P l) 5 P d) 6 P 1) 8 P 0) 13 P (-1)) 15 P (-1)
def pnO (o : mS) (P : Nat) : mS := su (su (su (su (su (su (su (su (su (su (su (su (su o 61 P 0) 64 P 0) 65 P 0) 66 P (-1)) 70 P 0) 71 P 0) 72 P 0) 73 P 0) 74 P (-1)) 75 P 0) 76 P 0) 77 P (-1)) 78 P (-1)
def frP (s : mS) (p : Nat) : Prop := s 10 p = 0 ∧ s 11 p = 0 ∧ s 12 p = 0 ∧ ∀ d, d < 400 → s 7 (400 * p + d) = 0
section PN
variable {g : Nat × Nat × Nat} {A : Nat → Nat → Nat} {z : zT} {s o o' : mS} {P S : Nat}
theorem refs_o (h : ∀ F j, F ≠ 60 → F ≠ 63 → o' F j = o F j) (hr : refs s o P S) : refs s o' P S := by
  have e : ∀ l, sz s o' l = sz s o l := by
    intro l
    unfold sz
    split <;> first | rfl | exact h _ _ (by decide) (by decide)
  have e2 : ∀ l j, nu s o' l j = nu s o l j := by
    intro l j
    unfold nu
    split <;> first | rfl | exact congrArg _ (h _ _ (by decide) (by decide))
  refine ⟨fun i hi => ?_, fun i hi => ?_, fun l hl j hj => ?_⟩
  · rw [h 78 i (by decide) (by decide)]; exact hr.1 i hi
  · rw [h 82 i (by decide) (by decide), h 83 i (by decide) (by decide), h 84 i (by decide) (by decide)]; exact hr.2.1 i hi
  · rw [e2]; rw [e] at hj; exact hr.2.2 l hl j hj
theorem pnS_o {k l d : Int32} {F j : Nat} (h : ¬ (j = P ∧ (F = 3 ∨ F = 4 ∨ F = 5 ∨ F = 6 ∨ F = 8 ∨ F = 13 ∨ F = 15))) : pnS s P k l d F j = s F j := by
  simp only [pnS, su_get]
  repeat rw [if_neg (by omega)]
theorem pnO_o {F j : Nat} (h : ¬ (j = P ∧ 61 ≤ F ∧ F ≤ 78)) : pnO o P F j = o F j := by
  simp only [pnO, su_get]
  repeat rw [if_neg (by omega)]
theorem pnS_w {k l d : Int32} {F j : Nat} (h1 : ownS F j ≠ (30, P)) (h2 : ownS F j ≠ (31, P)) : pnS s P k l d F j = s F j := by
  refine pnS_o ?_
  rintro ⟨rfl, h⟩
  rcases h with rfl | rfl | rfl | rfl | rfl | rfl | rfl
  · exact h1 rfl
  · exact h1 rfl
  · exact h1 rfl
  · exact h1 rfl
  · exact h2 rfl
  · exact h2 rfl
  · exact h2 rfl
theorem pnO_w {F j : Nat} (h1 : ownO F j ≠ (30, P)) (h2 : ownO F j ≠ (31, P)) (h3 : ownO F j ≠ (32, P)) : pnO o P F j = o F j := by
  simp only [pnO, su_get]
  repeat rw [if_neg (by rintro ⟨rfl, rfl⟩; first | exact h1 rfl | exact h2 rfl | exact h3 rfl)]
theorem np_cp {k l d : Int32} {H : xH} (hY : zok g A z P S) (h6 : P ≤ 60) (hS : S ≤ 400) (hr : refs s o P S) (hf : frP s P) (H1 : H.1 = z.2.1 + 1 + 3) (H2 : H.2.1 = z.2.2.1 + 9 + 418)
    (c0 : H.2.2 z.2.1 = some (.inl (4, oF [.int (nI P), .int k, .int l, .int d, .ref (z.2.1 + 1), .ref (z.2.1 + 1 + 1), .ref (z.2.1 + 1 + 2), .int 0, .int 1])))
    (c1 : H.2.2 (z.2.1 + 1) = some (.inl (3, oF [.int 0, .int 0, .int 0, .int 0, .int (-1), .int 0, .int 0, .int (-1), .null])))
    (c2 : H.2.2 (z.2.1 + 1 + 1) = some (.inl (3, oF [.int 0, .int 0, .int 0, .int 0, .int (-1), .int 0, .int 0, .int (-1), .null])))
    (c3 : H.2.2 (z.2.1 + 1 + 2) = some (.inr (1, 400, fun _ => .int 0)))
    (c4 : ∀ b, b ≠ z.2.1 → b ≠ z.2.1 + 1 → b ≠ z.2.1 + 1 + 1 → b ≠ z.2.1 + 1 + 2 → H.2.2 b = (cp A z s o).2.2 b) : H = cp (grA A 30 4 P z.2.1) (grz z 30 4 P 427) (pnS s P k l d) (pnO o P) := by
  obtain ⟨f1, f2, f3, f4⟩ := hf
  refine gro_cp (s := s) (o := o) hY (by rw [H1]) (by rw [H2]) (fun j j1 j2 => ?_) (fun b hb => c4 b (by omega) (by omega) (by omega) (by omega)) (fun j i hl => ?_)
  · obtain rfl | rfl | rfl | rfl : j = 30 ∨ j = 31 ∨ j = 32 ∨ j = 33 := by omega
    · rw [show z.2.1 + (30 - 30) = z.2.1 from rfl, c0]
      simp [ccell, grA, pnS, pnO, su_get]
    · rw [show z.2.1 + (31 - 30) = z.2.1 + 1 from rfl, c1]
      simp [ccell, pnS, pnO, su_get, f1, f2, f3, rS]
    · rw [show z.2.1 + (32 - 30) = z.2.1 + 1 + 1 from rfl, c2]
      simp [ccell, pnS, pnO, su_get, rS]
    · rw [show z.2.1 + (33 - 30) = z.2.1 + 1 + 2 from rfl, c3]
      simp only [ccell]
      congr 4
      funext x
      by_cases e : x < 400
      · rw [if_pos e, pnS_o (by omega), f4 x e]
      · rw [if_neg e]
  · have e : ∀ k, ¬ (30 ≤ k ∧ k ≤ 33) ∨ i ≠ P → gp j = k → (gp j, i) ≠ (30, P) ∧ (gp j, i) ≠ (31, P) ∧ (gp j, i) ≠ (32, P) := by
      intro k h e
      rw [e]
      refine ⟨?_, ?_, ?_⟩ <;> (intro q; obtain ⟨q1, q2⟩ := Prod.mk.inj q; omega)
    have hne := e (gp j) (by
      rcases hl with hl | hl | hl
      · left; unfold gp; split <;> omega
      · right; omega
      · left; unfold gp; split <;> omega) rfl
    rw [ccell_congr (s := s) (o := o) (lv37 hl) (lv0 hl) (fun F x q => pnS_w (by rw [q]; exact hne.1) (by rw [q]; exact hne.2.1)) (fun F x q => pnO_w (by rw [q]; exact hne.1) (by rw [q]; exact hne.2.1) (by rw [q]; exact hne.2.2))]
    exact cc_A rfl (fun k hk => gr_o (by omega)) (fun k i a b c => gr_o (by omega)) (fun k i a b c => gr_o (by omega)) hr h6 hS hl
end PN
