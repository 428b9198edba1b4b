/-! ===== one ship more ===== -/
def nsS (s : mS) (S : Nat) (i l d t w q : Int32) : mS := su (su (su (su (su (su (su (su (su (su (su s 20 S i) 21 S l) 22 S d) 23 S t) 24 S w) 25 S q) 26 S 0) 27 S (-1)) 28 S (-1)) 29 S (-1)) 30 S (-1)
def nsO (o : mS) (S : Nat) : mS := su (su (su (su (su (su (su (su o 80 S 0) 81 S (-1)) 82 S (-1)) 83 S (-1)) 84 S (-1)) 85 S 0) 86 S 0) 87 S 0
def frX (s : mS) (x : Nat) : Prop := s 31 x = 0 ∧ s 32 x = 0 ∧ s 33 x = 0
/-- the place of a length -/
def plB (c : Nat → Int32) (l : Int32) : Nat → Nat → Nat
  | 0, i => i
  | f + 1, i => if c i < l then i else plB c l f (i + 1)
def insO (o : mS) (S i : Nat) : mS := fun F j => if F = 93 then (if j < i then o 93 j else if j = i then nI S else o 93 (j - 1)) else if F = 90 ∧ j = 0 then nI (S + 1) else if F = 63 ∧ j = 2 then o 63 2 + 1 else o F j
theorem plB_le (c : Nat → Int32) (l : Int32) : ∀ f i, i ≤ plB c l f i ∧ plB c l f i ≤ i + f ∧ (∀ j, i ≤ j → j < plB c l f i → ¬ c j < l) ∧ (plB c l f i < i + f → c (plB c l f i) < l) := by
  intro f
  induction f with
  | zero => intro i; exact ⟨Nat.le_refl _, Nat.le_refl _, fun j a b => absurd (show j < i from b) (by omega), fun h => absurd (show i < i + 0 from h) (by omega)⟩
  | succ f ih =>
    intro i
    rw [plB]
    by_cases e : c i < l
    · rw [if_pos e]
      exact ⟨Nat.le_refl _, by omega, fun j a b => by omega, fun _ => e⟩
    · rw [if_neg e]
      obtain ⟨h1, h2, h3, h4⟩ := ih (i + 1)
      refine ⟨by omega, by omega, fun j a b => ?_, fun h => h4 (by omega)⟩
      by_cases ej : j = i
      · rw [ej]; exact e
      · exact h3 j (by omega) b
section SN
variable {g : Nat × Nat × Nat} {A : Nat → Nat → Nat} {z : zT} {s o o' : mS} {P S : Nat}
theorem nsS_o {i l d t w q : Int32} {F j : Nat} (h : ¬ (j = S ∧ 20 ≤ F ∧ F ≤ 30)) : nsS s S i l d t w q F j = s F j := by
  simp only [nsS, su_get]
  repeat rw [if_neg (by omega)]
theorem nsO_o {F j : Nat} (h : ¬ (j = S ∧ 80 ≤ F ∧ F ≤ 87)) : nsO o S F j = o F j := by
  simp only [nsO, su_get]
  repeat rw [if_neg (by omega)]
theorem nsS_w {i l d t w q : Int32} {F j : Nat} (h1 : ownS F j ≠ (34, S)) (h2 : ownS F j ≠ (35, S)) : nsS s S i l d t w q F j = s F j := by
  simp only [nsS, su_get]
  repeat rw [if_neg (by rintro ⟨rfl, rfl⟩; first | exact h1 rfl | exact h2 rfl)]
theorem nsO_w {F j : Nat} (h1 : ownO F j ≠ (36, S)) : nsO o S F j = o F j := by
  simp only [nsO, su_get]
  repeat rw [if_neg (by rintro ⟨rfl, rfl⟩; exact h1 rfl)]
theorem ns_cp {i l d t w q : Int32} {H : xH} (hY : zok g A z P S) (h6 : P ≤ 60) (hS : S ≤ 400) (hr : refs s o P S) (hf : frX s S) (H1 : H.1 = z.2.1 + 1 + 2) (H2 : H.2.1 = z.2.2.1 + 9 + 16)
    (c0 : H.2.2 z.2.1 = some (.inl (7, oF [.int (nI S), .int i, .int l, .int d, .int t, .int w, .int q, .ref (z.2.1 + 1), .ref (z.2.1 + 1 + 1)])))
    (c1 : H.2.2 (z.2.1 + 1) = some (.inl (9, oF [.int 0, .int (-1), .null, .null, .null, .int 0, .int 0, .int 0])))
    (c2 : H.2.2 (z.2.1 + 1 + 1) = some (.inl (9, oF [.int 0, .int (-1), .null, .null, .null, .int 0, .int 0, .int 0])))
    (c4 : ∀ b, b ≠ z.2.1 → b ≠ z.2.1 + 1 → b ≠ z.2.1 + 1 + 1 → H.2.2 b = (cp A z s o).2.2 b) : H = cp (grA A 34 3 S z.2.1) (grz z 34 3 S 25) (nsS s S i l d t w q) (nsO o S) := by
  obtain ⟨f1, f2, f3⟩ := hf
  refine gro_cp (s := s) (o := o) hY (by rw [H1]) (by rw [H2]) (fun j j1 j2 => ?_) (fun b hb => c4 b (by omega) (by omega) (by omega)) (fun j i hl => ?_)
  · obtain rfl | rfl | rfl : j = 34 ∨ j = 35 ∨ j = 36 := by omega
    · rw [show z.2.1 + (34 - 34) = z.2.1 from rfl, c0]
      simp [ccell, grA, nsS, su_get]
    · rw [show z.2.1 + (35 - 34) = z.2.1 + 1 from rfl, c1]
      simp [ccell, nsS, su_get, f1, f2, f3, rP]
    · rw [show z.2.1 + (36 - 34) = z.2.1 + 1 + 1 from rfl, c2]
      simp [ccell, nsO, su_get, rP]
  · have hne : (gp j, i) ≠ (34, S) ∧ (gp j, i) ≠ (35, S) ∧ (gp j, i) ≠ (36, S) := by
      have h : ¬ (34 ≤ gp j ∧ gp j ≤ 36) ∨ i ≠ S := by
        rcases hl with hl | hl | hl
        · left; unfold gp; split <;> omega
        · left; unfold gp; split <;> omega
        · right; omega
      refine ⟨?_, ?_, ?_⟩ <;> (intro q; obtain ⟨q1, q2⟩ := Prod.mk.inj q; omega)
    rw [ccell_congr (s := s) (o := o) (lv37 hl) (lv0 hl) (fun F x q => nsS_w (by rw [q]; exact hne.1) (by rw [q]; exact hne.2.1)) (fun F x q => nsO_w (by rw [q]; exact hne.2.2))]
    exact cc_A rfl (fun k hk => gr_o (by omega)) (fun k i a b c => gr_o (by omega)) (fun k i a b c => gr_o (by omega)) hr h6 hS hl
theorem lv_S (k i : Nat) : lv z P (S + 1) k i ↔ lv z P S k i ∨ (34 ≤ k ∧ k < 34 + 3 ∧ i = S) := by
  unfold lv
  constructor
  · rintro (h | h | h)
    · exact Or.inl (Or.inl h)
    · exact Or.inl (Or.inr (Or.inl h))
    · by_cases e : i = S
      · right; omega
      · left; right; right; omega
  · rintro ((h | h | h) | h)
    · exact Or.inl h
    · exact Or.inr (Or.inl h)
    · right; right; omega
    · right; right; omega
/-- the place where a ship of length l goes -/
theorem lp_placeBy {l : Int32} {S' : Nat} {c : Nat → Int32} (hY : zok g A z P S') (hn : o 90 0 = nI S) (hS : S ≤ 400) (hcap : S ≤ z.1.2.2 2) (hc : ∀ j, j < S → ∃ y, y < S' ∧ o 93 j = nI y ∧ s 21 y = c j) (h4 : S' ≤ 400) : ∀ (f i : Nat), i + f = S → Ev g 84 2 [some (.ref (A 0 0)), some (.int l), some (.int (nI i))] [] (cp A z s o) (.inl (some (.int (nI (plB c l f i)))), cp A z s o) := by
  have k1 := cl_size (s := s) (o := o) hY (l := 2) (by decide)
  simp only [sz, hn] at k1
  intro f
  induction f with
  | zero =>
    intro i hi
    have h2 : nI S ≤ nI i := nI_le (by omega) (by omega)
    rw [plB]
    simp only [e_X9_placeByLength_0, e_X9_placeByLength_1, e_X9_placeByLength_2, e_X9_placeByLength_3, e_X9_placeByLength_4, e_X9_placeByLength_10, e_X9_placeByLength_13, e_X9_placeByLength_14, e_X9_placeByLength_17, e_X9_placeByLength_21n, e_X9_placeByLength_21, e_X9_placeByLength_24, e_X9_placeByLength_27, e_X9_placeByLength_28, e_X9_placeByLength_31, e_X9_placeByLength_34, e_X9_placeByLength_37, e_X9_placeByLength_38, cO_0 hY, cg_0_2 hY, nem, su_get, z1e0, z2e0, z3e0, z4e0, z5e0, z0e1, zme0, Nat.reduceEqDiff, not_true_eq_false, and_self, false_or, or_false, or_self,  bI_eq0, bI_eq1, i10, i20, i30, i00, ne_eq, Decidable.not_not, true_and, and_true, false_and, and_false, xrd_ref, xrd_null, xrd_rf, xid_int, xcat_int, xcat_ref, xcat_null, xcat_long, xcat_rf, xfit_int, xfit_0, xfit_1, xfit_ref, xfit_null, xfit_rf, not_false_eq_true, ↓reduceIte, z01_0, z01_1, bI_01, true_or, or_true, c_X9_placeByLength_7 (cO_3 hY) k1, h2]
  | succ f ih =>
    intro i hi
    have h2 : ¬ nI S ≤ nI i := nI_ge (by omega) (by omega)
    obtain ⟨y, hy, e1, e2⟩ := hc i (by omega)
    have k2 := cl_get (s := s) (o := o) hY (l := 2) (n := S) (i := i) (by decide) hn hcap (by omega)
    simp only [lk, nu, e1, nI_clamp (show y < 2 ^ 31 by omega)] at k2
    rw [e_X9_placeByLength_2 rfl, plB]
    by_cases e : c i < l
    · rw [if_pos e]
      simp only [e_X9_placeByLength_3, e_X9_placeByLength_4, e_X9_placeByLength_10, e_X9_placeByLength_13, e_X9_placeByLength_14, e_X9_placeByLength_17, e_X9_placeByLength_21n, e_X9_placeByLength_21, e_X9_placeByLength_24, e_X9_placeByLength_27, e_X9_placeByLength_28, e_X9_placeByLength_31, e_X9_placeByLength_34, e_X9_placeByLength_37, e_X9_placeByLength_38, cO_0 hY, cg_0_2 hY, nem, su_get, z1e0, z2e0, z3e0, z4e0, z5e0, z0e1, zme0, Nat.reduceEqDiff, not_true_eq_false, and_self, false_or, or_false, or_self,  bI_eq0, bI_eq1, i10, i20, i30, i00, ne_eq, Decidable.not_not, true_and, and_true, false_and, and_false, xrd_ref, xrd_null, xrd_rf, xid_int, xcat_int, xcat_ref, xcat_null, xcat_long, xcat_rf, xfit_int, xfit_0, xfit_1, xfit_ref, xfit_null, xfit_rf, not_false_eq_true, ↓reduceIte, z01_0, z01_1, bI_01, true_or, or_true, c_X9_placeByLength_7 (cO_3 hY) k1, h2, c_X9_placeByLength_18 (cO_3 hY) k2, cO_34 hY hy, cg_34_2 hY hy, e2, e]
    · rw [if_neg e]
      simp only [e_X9_placeByLength_3, e_X9_placeByLength_4, e_X9_placeByLength_10, e_X9_placeByLength_13, e_X9_placeByLength_14, e_X9_placeByLength_17, e_X9_placeByLength_21n, e_X9_placeByLength_21, e_X9_placeByLength_24, e_X9_placeByLength_27, e_X9_placeByLength_28, e_X9_placeByLength_31, e_X9_placeByLength_34, e_X9_placeByLength_37, e_X9_placeByLength_38, cO_0 hY, cg_0_2 hY, nem, su_get, z1e0, z2e0, z3e0, z4e0, z5e0, z0e1, zme0, Nat.reduceEqDiff, not_true_eq_false, and_self, false_or, or_false, or_self,  bI_eq0, bI_eq1, i10, i20, i30, i00, ne_eq, Decidable.not_not, true_and, and_true, false_and, and_false, xrd_ref, xrd_null, xrd_rf, xid_int, xcat_int, xcat_ref, xcat_null, xcat_long, xcat_rf, xfit_int, xfit_0, xfit_1, xfit_ref, xfit_null, xfit_rf, not_false_eq_true, ↓reduceIte, z01_0, z01_1, bI_01, true_or, or_true, c_X9_placeByLength_7 (cO_3 hY) k1, h2, c_X9_placeByLength_18 (cO_3 hY) k2, cO_34 hY hy, cg_34_2 hY hy, e2, e, nI_1]
      exact ih (i + 1) (by omega)
theorem cd_placeBy {l : Int32} {S' : Nat} {c : Nat → Int32} {a2 : Option Value} (hY : zok g A z P S') (hn : o 90 0 = nI S) (hS : S ≤ 400) (hcap : S ≤ z.1.2.2 2) (hc : ∀ j, j < S → ∃ y, y < S' ∧ o 93 j = nI y ∧ s 21 y = c j) (h4 : S' ≤ 400) : Ev g 84 0 [some (.ref (A 0 0)), some (.int l), a2] [] (cp A z s o) (.inl (some (.int (nI (plB c l S 0)))), cp A z s o) := by
  have k := lp_placeBy (g := g) (l := l) hY hn hS hcap hc h4 S 0 (by omega)
  rw [nI_0] at k
  simp only [e_X9_placeByLength_0, e_X9_placeByLength_1, nem, su_get, z1e0, z2e0, z3e0, z4e0, z5e0, z0e1, zme0, Nat.reduceEqDiff, not_true_eq_false, and_self, false_or, or_false, or_self,  bI_eq0, bI_eq1, i10, i20, i30, i00, ne_eq, Decidable.not_not, true_and, and_true, false_and, and_false, xrd_ref, xrd_null, xrd_rf, xid_int, xcat_int, xcat_ref, xcat_null, xcat_long, xcat_rf, xfit_int, xfit_0, xfit_1, xfit_ref, xfit_null, xfit_rf, not_false_eq_true, ↓reduceIte, z01_0, z01_1, bI_01, true_or, or_true]
  exact k
end SN
