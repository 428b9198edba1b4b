/-! ===== one call of each: pilot, ship ===== -/
section MA
variable {g : Nat × Nat × Nat} {b N n : Nat} {xs : Nat → Int32} {s s1 : mS} {H : xH} {z : zT}
theorem LF_gr {k0 m I c : Nat} (h : LF g b N xs z s1) : LF g b N xs (grz z k0 m I c) s1 := by
  obtain ⟨h1, ⟨h2, h3⟩, ⟨h4, h5⟩, h6, h7⟩ := h
  have e : ∀ a, a < z.2.1 → (grz z k0 m I c).1.1 a = z.1.1 a := fun a h => by
    simp only [grz]
    rw [if_neg (by omega)]
  refine ⟨fun a a1 a2 => ⟨?_, (h1 a a1 a2).2⟩, ⟨?_, h3⟩, ⟨?_, h5⟩, h6, ?_⟩
  · rw [e a (by omega)]; exact (h1 a a1 a2).1
  · rw [e _ (by omega)]; exact h2
  · rw [e _ (by omega)]; exact h4
  · show g.1 + 63 ≤ z.2.1 + m
    omega
theorem LR_gr {k0 m I c : Nat} (h : LR g n z) (hm : m ≤ 5) (hc : c ≤ 440) : LR g (n + 1) (grz z k0 m I c) := by
  obtain ⟨h1, h2⟩ := h
  refine ⟨?_, ?_⟩
  · show z.2.1 + m ≤ g.1 + 100 + 5 * (n + 1) + cps z
    omega
  · show z.2.2.1 + c ≤ 60000 + 440 * (n + 1) + sqs z
    omega
theorem B_pilot {k l d : Int32} (hn : n ≤ 1100) (h : LI g b N xs n s s H) : (∃ H1, Ev g 56 0 [some (.ref g.1), some (.int k), some (.int l), some (.int d), none] [] H (if e_pilot s k l d = 0 then .inl (some (.int (r_pilot s k l d))) else .inr (if e_pilot s k l d = 1 then 0 else 2), H1) ∧ LI g b N xs (n + 1) s (f_pilot s k l d) H1) ∧ MS g b N xs n s (f_pilot s k l d) 116 [some (.ref (g.1 + 20)), some (.int k), some (.int l), some (.int d), none] (some (.int (r_pilot s k l d))) := by
  have h0 := h
  obtain ⟨A, z, o, P, S, L, T, B, rfl, hx, hV, hF, hR⟩ := h
  have h6 := hV.1.1.2.2.2.2.2.1.1
  have h4 := hV.1.1.2.2.2.2.2.1.2
  obtain ⟨l1, ⟨l2, l3, l4, l5⟩, l6, l7, l8, l9, l10, l11, l12, l13⟩ := hV
  have hLP := l6.1.2.1
  refine ⟨?_, MS_of (fun h => md_pilot l2 l6.1.1 h6 hLP (by omega))⟩
  by_cases e : e_pilot s k l d = 0
  · rw [if_pos e]
    have w1 : (0 ≤ k ∧ k ≤ 4) ∧ (0 ≤ l ∧ l ≤ 400) ∧ (0 ≤ d ∧ d ≤ 200) := by
      apply Decidable.byContradiction; intro w
      unfold e_pilot at e
      rw [if_pos w] at e
      exact absurd e (by decide)
    have w2 : ¬ s 2 0 = 60 := by
      intro w
      unfold e_pilot at e
      rw [if_neg (fun q => q w1), if_pos w] at e
      exact absurd e (by decide)
    have hP : P < 60 := by
      rcases Nat.lt_or_ge P 60 with q | q
      · exact q
      · exfalso
        apply w2
        rw [l2, show P = 60 by omega]
        decide +kernel
    have fr := l11.1.1 P (Nat.le_refl _) hP
    obtain ⟨hR1, hR2⟩ := hR
    obtain ⟨z', c1, ⟨c2, c3⟩, kk⟩ := cd_pilot (g := g) (A := A) (z := z) (s := s) (o := o) (k := k) (l := l) (d := d) (a4 := none) l1 l2 l6.1 l8 (refs_mk l1 l2 l3 l6 l13.1 l13.2) fr e (by omega) (by omega)
    rw [hx] at kk
    have cP : (nI P).toNatClampNeg = P := nI_clamp (by omega)
    have cL : (nI L).toNatClampNeg = L := nI_clamp (by omega)
    have ef : f_pilot s k l d = su (su (su (su (su (su (su (su (su (su (su (su s 0 0 0) 3 P k) 4 P l) 5 P d) 6 P 1) 8 P 0) 13 P (-1)) 15 P (-1)) 2 0 (nI (P + 1))) 17 L (nI P)) 18 0 (nI (L + 1))) 52 0 0 := by
      unfold f_pilot
      rw [if_pos e, l2, l6.1.1, cP, cL, nI_1, nI_1]
    have q : ∀ F j, (F = 1 ∨ F = 7 ∨ F = 9 ∨ F = 10 ∨ F = 11 ∨ F = 12 ∨ F = 14 ∨ F = 16 ∨ (18 < F ∧ F ≠ 52)) → f_pilot s k l d F j = s F j := fun F j a => by
      have a0 : F ≠ 0 := by omega
      have a2 : F ≠ 2 := by omega
      have a3 : F ≠ 3 := by omega
      have a4 : F ≠ 4 := by omega
      have a5 : F ≠ 5 := by omega
      have a6 : F ≠ 6 := by omega
      have a8 : F ≠ 8 := by omega
      have a13 : F ≠ 13 := by omega
      have a15 : F ≠ 15 := by omega
      have a17 : F ≠ 17 := by omega
      have a18 : F ≠ 18 := by omega
      have a52 : F ≠ 52 := by omega
      simp only [ef, su_get, a0, a2, a3, a4, a5, a6, a8, a13, a15, a17, a18, a52, false_and, if_false]
    have qP : ∀ F j, j ≠ P → (F = 3 ∨ F = 8 ∨ F = 13) → f_pilot s k l d F j = s F j := fun F j hj a => by
      rcases a with rfl | rfl | rfl <;> simp only [ef, su_get, Nat.reduceEqDiff, hj, false_and, and_false, if_false]
    have q2 : f_pilot s k l d 2 0 = nI (P + 1) := by simp only [ef, su_get, Nat.reduceEqDiff, false_and, if_false, and_self, if_true]
    have q17 : ∀ j, f_pilot s k l d 17 j = if j = L then nI P else s 17 j := fun j => by simp only [ef, su_get, Nat.reduceEqDiff, false_and, if_false, true_and]
    have q18 : f_pilot s k l d 18 0 = nI (L + 1) := by simp only [ef, su_get, Nat.reduceEqDiff, false_and, if_false, and_self, if_true]
    have q52 : f_pilot s k l d 52 0 = 0 := by simp only [ef, su_get, and_self, if_true]
    have q8 : f_pilot s k l d 8 P = 0 := by simp only [ef, su_get, Nat.reduceEqDiff, false_and, if_false, and_self, if_true]
    have q13 : f_pilot s k l d 13 P = -1 := by simp only [ef, su_get, Nat.reduceEqDiff, false_and, if_false, and_self, if_true]
    have q3 : f_pilot s k l d 3 P = k := by simp only [ef, su_get, Nat.reduceEqDiff, false_and, if_false, and_self, if_true]
    have qo : ∀ F j, F ≠ 63 → mc (mc (pnO (su o 60 0 0) P) 0) 3 F j = pnO (su o 60 0 0) P F j := fun F j a => by
      unfold mc
      rw [su_other _ _ a, su_other _ _ a]
    have qn : ∀ F j, F ≠ 60 → F ≠ 63 → ¬ (j = P ∧ 61 ≤ F ∧ F ≤ 78) → mc (mc (pnO (su o 60 0 0) P) 0) 3 F j = o F j := fun F j a a2 a3 => by
      rw [qo _ _ a2, pnO_o a3, su_other _ _ a]
    have q60 : mc (mc (pnO (su o 60 0 0) P) 0) 3 60 0 = 0 := by
      rw [qo _ _ (by decide), pnO_o (by omega)]
      simp only [su_get, and_self, if_true]
    have q61 : mc (mc (pnO (su o 60 0 0) P) 0) 3 61 P = 0 := by
      rw [qo _ _ (by decide)]
      simp only [pnO, su_get, Nat.reduceEqDiff, false_and, if_false, and_self, if_true]
    have q62 : ∀ j, mc (mc (pnO (su o 60 0 0) P) 0) 3 62 j = o 62 j := fun j => by
      rw [qo _ _ (by decide)]
      simp only [pnO, su_get, Nat.reduceEqDiff, false_and, if_false]
    have q78 : mc (mc (pnO (su o 60 0 0) P) 0) 3 78 P = -1 := by
      rw [qo _ _ (by decide)]
      simp only [pnO, su_get, and_self, if_true]
    generalize hs' : f_pilot s k l d = s' at kk q qP q2 q17 q18 q52 q8 q13 q3 ⊢
    generalize ho' : mc (mc (pnO (su o 60 0 0) P) 0) 3 = o' at kk qn q60 q61 q62 q78
    have cap : ∀ l, z.1.2.2 l ≤ z'.1.2.2 l := c1.2.2.2.2
    obtain ⟨y1, y2, y3, ⟨K, y4, y5, y6, y7⟩, ⟨W, y8, y9, y10, y11⟩⟩ := l1
    refine ⟨_, kk, _, z', o', P + 1, S, L + 1, T, B, rfl, ?_, ⟨⟨c1.1, ⟨c2, Nat.le_trans y2.2 (cap 1)⟩, ⟨by rw [qn _ _ (by decide) (by decide) (by omega)]; exact y3.1, Nat.le_trans y3.2.1 (cap 2), fun j hj => by rw [qn _ _ (by decide) (by decide) (by omega)]; exact y3.2.2 j hj⟩, ⟨K, y4, by rw [qn _ _ (by decide) (by decide) (by omega)]; exact y5, Nat.le_trans y6 (cap 4), fun j hj => ?_⟩, ⟨W, y8, by rw [qn _ _ (by decide) (by decide) (by omega)]; exact y9, Nat.le_trans y10 (cap 5), fun j hj => ?_⟩⟩, ⟨q2, by rw [q _ _ (by omega)]; exact l3, by rw [q _ _ (by omega)]; exact l4, l5⟩, core_P hP l6 q18 q17 q8 q13 (fun F j hj a => ?_) (fun F j a => q F j (by omega)) (fun F j hj a => qn F j (by omega) (by omega) (by omega)), stat_P l7 (by rw [q3]; exact k4 w1.1) (fun j hj => qP 3 j hj (by omega)) (fun F j a => q F j (by omega)) fr.2.2.2 q61 (fun F j a => ?_), c3, by rw [q60, q52], fun j => by rw [q 36 j (by omega), q 7 j (by omega)]; exact l10 j, ⟨fresh_P (fresh_cg (fun F j a => q F j (by omega)) l11.1), fun p hp => ?_⟩, Or.inl q52, ⟨fun i hi => ?_, fun i hi => ?_⟩⟩, LF_zle (LF_gr hF) c1, LR_zle (LR_gr ⟨hR1, hR2⟩ (by omega) (by omega)) c1⟩
    · rw [← hx]
      simp only [grA]
      rw [if_neg (by omega)]
    · obtain ⟨p, p1, p2⟩ := y7 j hj
      exact ⟨p, by omega, by rw [qn _ _ (by decide) (by decide) (by omega)]; exact p2⟩
    · obtain ⟨p, p1, p2⟩ := y11 j hj
      exact ⟨p, by omega, by rw [qn _ _ (by decide) (by decide) (by omega)]; exact p2⟩
    · rcases a with a | a | a | a | a
      · exact qP F j hj (by omega)
      · exact q F j (by omega)
      · exact qP F j hj (by omega)
      · exact q F j (by omega)
      · exact q F j (by omega)
    · rcases a with ⟨rfl, a⟩ | rfl | rfl
      · exact qn _ _ (by decide) (by decide) (by omega)
      · exact q62 j
      · exact qn _ _ (by decide) (by decide) (by omega)
    · rw [q _ _ (by omega)]
      by_cases a : p = P
      · subst a
        exact ⟨0, by omega, by rw [fr.2.1, nI_0]⟩
      · exact l11.2 p (by omega)
    · by_cases a : i = P
      · subst a
        exact Or.inl q78
      · rw [qn _ _ (by decide) (by decide) (by omega)]
        exact l13.1 i (by omega)
    · rw [qn _ _ (by decide) (by decide) (by omega), qn _ _ (by decide) (by decide) (by omega), qn _ _ (by decide) (by decide) (by omega)]
      have vw : ∀ v, vN v P → vN v (P + 1) := fun v h => by
        rcases h with h | ⟨p, p1, p2⟩
        · exact Or.inl h
        · exact Or.inr ⟨p, by omega, p2⟩
      obtain ⟨u1, u2, u3⟩ := l13.2 i hi
      exact ⟨vw _ u1, vw _ u2, vw _ u3⟩
  · rw [if_neg e]
    have kk := pilotX (g := g) (A := A) (z := z) (s := s) (o := o) (k := k) (l := l) (d := d) (a4 := none) l1.1 l2 e
    rw [hx] at kk
    have e2 : f_pilot s k l d = su s 0 0 (e_pilot s k l d) := by unfold f_pilot; rw [if_neg e]
    rw [e2]
    exact ⟨_, kk, LI_bmp (LI_thr h0) hn⟩
theorem B_ship {i l d t w q : Int32} (hi : i = 0 ∨ i = 1) (hq : q = 0 ∨ q = 1) (hn : n ≤ 1100) (h : LI g b N xs n s s H) : (∃ H1, Ev g 57 0 [some (.ref g.1), some (.int i), some (.int l), some (.int d), some (.int t), some (.int w), some (.int q), none] [] H (if e_ship s l d t w = 0 then .inl (some (.int (r_ship s l d t w))) else .inr (if e_ship s l d t w = 1 then 0 else if e_ship s l d t w = 2 then 1 else 2), H1) ∧ LI g b N xs (n + 1) s (f_ship s i l d t w q) H1) ∧ MS g b N xs n s (f_ship s i l d t w q) 117 [some (.ref (g.1 + 20)), some (.int i), some (.int l), some (.int d), some (.int t), some (.int w), some (.int q), none] (some (.int (r_ship s l d t w))) := by
  have h0 := h
  obtain ⟨A, z, o, P, S, L, T, B, rfl, hx, hV, hF, hR⟩ := h
  have h6 := hV.1.1.2.2.2.2.2.1.1
  have h4 := hV.1.1.2.2.2.2.2.1.2
  obtain ⟨l1, ⟨l2, l3, l4, l5⟩, l6, l7, l8, l9, l10, l11, l12, l13⟩ := hV
  have hLP := l6.1.2.1
  refine ⟨?_, MS_of (fun h => md_ship l3 h4 hi hq (by omega))⟩
  by_cases e : e_ship s l d t w = 0
  · rw [if_pos e]
    have w1 : (1 ≤ l ∧ l ≤ 400) ∧ (1 ≤ d ∧ d ≤ 200) ∧ (0 ≤ t ∧ t ≤ 9599) ∧ ¬ w < -2 := by
      apply Decidable.byContradiction; intro w'
      unfold e_ship at e
      rw [if_pos w'] at e
      exact absurd e (by decide)
    have w2 : ¬ s 2 0 ≤ w := by
      intro w'
      unfold e_ship at e
      rw [if_neg (fun q => q w1), if_pos w'] at e
      exact absurd e (by decide)
    have w3 : ¬ s 19 0 = 400 := by
      intro w'
      unfold e_ship at e
      rw [if_neg (fun q => q w1), if_neg w2, if_pos w'] at e
      exact absurd e (by decide)
    have hS : S < 400 := by
      rcases Nat.lt_or_ge S 400 with q | q
      · exact q
      · exfalso
        apply w3
        rw [l3, show S = 400 by omega]
        decide +kernel
    have fr := l11.1.2 S (Nat.le_refl _) hS
    obtain ⟨hR1, hR2⟩ := hR
    obtain ⟨z', c1, ⟨c2, c3⟩, kk⟩ := cd_ship (g := g) (A := A) (z := z) (s := s) (o := o) (i := i) (l := l) (d := d) (t := t) (w := w) (q := q) (a7 := none) hi hq l1 l2 l3 (refs_mk l1 l2 l3 l6 l13.1 l13.2) fr e (by omega) (by omega)
    rw [hx] at kk
    have cS : (nI S).toNatClampNeg = S := nI_clamp (by omega)
    have ef : f_ship s i l d t w q = su (su (su (su (su (su (su (su (su (su (su (su (su (su s 0 0 0) 20 S i) 21 S l) 22 S d) 23 S t) 24 S w) 25 S q) 26 S 0) 27 S (-1)) 28 S (-1)) 29 S (-1)) 30 S (-1)) 19 0 (nI (S + 1))) 52 0 0 := by
      unfold f_ship
      rw [if_pos e, l3, cS, nI_1]
    have qq : ∀ F j, F ≠ 0 → (F < 19 ∨ (30 < F ∧ F ≠ 52)) → f_ship s i l d t w q F j = s F j := fun F j a0 a => by
      have b1 : F ≠ 19 := by omega
      have b2 : F ≠ 20 := by omega
      have b3 : F ≠ 21 := by omega
      have b4 : F ≠ 22 := by omega
      have b5 : F ≠ 23 := by omega
      have b6 : F ≠ 24 := by omega
      have b7 : F ≠ 25 := by omega
      have b8 : F ≠ 26 := by omega
      have b9 : F ≠ 27 := by omega
      have b10 : F ≠ 28 := by omega
      have b11 : F ≠ 29 := by omega
      have b12 : F ≠ 30 := by omega
      have b13 : F ≠ 52 := by omega
      simp only [ef, su_get, a0, b1, b2, b3, b4, b5, b6, b7, b8, b9, b10, b11, b12, b13, false_and, if_false]
    have qS : ∀ F j, j ≠ S → (F = 21 ∨ F = 24 ∨ F = 26 ∨ F = 27 ∨ F = 28 ∨ F = 29 ∨ F = 30) → f_ship s i l d t w q F j = s F j := fun F j hj a => by
      rcases a with rfl | rfl | rfl | rfl | rfl | rfl | rfl <;> simp only [ef, su_get, Nat.reduceEqDiff, hj, false_and, and_false, if_false]
    have q19 : f_ship s i l d t w q 19 0 = nI (S + 1) := by simp only [ef, su_get, Nat.reduceEqDiff, false_and, if_false, and_self, if_true]
    have q52 : f_ship s i l d t w q 52 0 = 0 := by simp only [ef, su_get, and_self, if_true]
    have q21 : f_ship s i l d t w q 21 S = l := by simp only [ef, su_get, Nat.reduceEqDiff, false_and, if_false, and_self, if_true]
    have q24 : f_ship s i l d t w q 24 S = w := by simp only [ef, su_get, Nat.reduceEqDiff, false_and, if_false, and_self, if_true]
    have q26 : f_ship s i l d t w q 26 S = 0 := by simp only [ef, su_get, Nat.reduceEqDiff, false_and, if_false, and_self, if_true]
    have q28 : f_ship s i l d t w q 28 S = -1 ∧ f_ship s i l d t w q 29 S = -1 ∧ f_ship s i l d t w q 30 S = -1 := by
      refine ⟨?_, ?_, ?_⟩ <;> simp only [ef, su_get, Nat.reduceEqDiff, false_and, if_false, and_self, if_true]
    have ob : ∀ F j, F ≠ 60 → F ≠ 63 → ¬ (j = S ∧ 80 ≤ F ∧ F ≤ 87) → mc (nsO (su o 60 0 0) S) 1 F j = o F j := fun F j a a2 a3 => by
      unfold mc
      rw [su_other _ _ a2, nsO_o a3, su_other _ _ a]
    have e93 : (fun j => s 21 (mc (nsO (su o 60 0 0) S) 1 93 j).toNatClampNeg) = fun j => s 21 (o 93 j).toNatClampNeg := funext fun j => by rw [ob _ _ (by decide) (by decide) (by omega)]
    have sb1 : sbOK s (mc (nsO (su o 60 0 0) S) 1) S := by
      obtain ⟨a5, a6⟩ := l7.2.2.1
      exact ⟨fun j hj => by rw [ob _ _ (by decide) (by decide) (by omega)]; exact a5 j hj, fun i j h1 h2 => by rw [ob _ _ (by decide) (by decide) (by omega), ob _ _ (by decide) (by decide) (by omega)]; exact a6 i j h1 h2⟩
    have sb2 := ins_sb (s := s) (s' := f_ship s i l d t w q) (l := l) sb1 hS (fun y hy => qS 21 y (by omega) (by omega)) q21
    rw [e93] at sb2
    have q60 : mc (nsO (su o 60 0 0) S) 1 60 0 = 0 := by
      unfold mc
      rw [su_other _ _ (by decide), nsO_o (by omega)]
      simp only [su_get, and_self, if_true]
    have q82 : mc (nsO (su o 60 0 0) S) 1 82 S = -1 ∧ mc (nsO (su o 60 0 0) S) 1 83 S = -1 ∧ mc (nsO (su o 60 0 0) S) 1 84 S = -1 := by
      refine ⟨?_, ?_, ?_⟩ <;> simp only [mc, nsO, su_get, Nat.reduceEqDiff, false_and, if_false, and_self, if_true]
    generalize hpl : plB (fun j => s 21 (o 93 j).toNatClampNeg) l S 0 = pp at kk sb2
    generalize ho1 : mc (nsO (su o 60 0 0) S) 1 = o1 at kk sb2 ob q60 q82
    have io : ∀ F j, F ≠ 93 → F ≠ 90 → F ≠ 63 → insO o1 S pp F j = o1 F j := fun F j a1 a2 a3 => insO_o a1 a2 a3
    have i90 : insO o1 S pp 90 0 = nI (S + 1) := by
      unfold insO
      rw [if_neg (by decide), if_pos ⟨rfl, rfl⟩]
    generalize hs' : f_ship s i l d t w q = s' at kk qq qS q19 q52 q21 q24 q26 q28 sb2 ⊢
    generalize ho' : insO o1 S pp = o' at kk sb2 io i90
    have qn : ∀ F j, F ≠ 60 → F ≠ 63 → F ≠ 90 → F ≠ 93 → ¬ (j = S ∧ 80 ≤ F ∧ F ≤ 87) → o' F j = o F j := fun F j a1 a2 a3 a4 a5 => by
      rw [io _ _ a4 a3 a2, ob _ _ a1 a2 a5]
    have cap : ∀ l, z.1.2.2 l ≤ z'.1.2.2 l := c1.2.2.2.2
    have hl4 : ∃ m, m ≤ 400 ∧ l = nI m := by
      obtain ⟨j, hj, rfl⟩ := of_in (n := 401) (hi := 401) (v := l) (by decide) ⟨by
        have := w1.1.1
        rw [Int32.le_iff_toInt_le] at this ⊢
        have e1 : (1 : Int32).toInt = 1 := by decide
        have e0 : (0 : Int32).toInt = 0 := by decide
        omega, by
        have := w1.1.2
        rw [Int32.le_iff_toInt_le] at this
        rw [Int32.lt_iff_toInt_lt]
        have e1 : (400 : Int32).toInt = 400 := by decide
        have e0 : (401 : Int32).toInt = 401 := by decide
        omega⟩
      exact ⟨j, by omega, rfl⟩
    have hw4 : ¬ w < 0 → ∃ p, p < P ∧ w = nI p := fun a => by
      refine of_in (n := P) (hi := nI P) (nI_toInt (by omega)) ⟨Int32.not_lt.mp a, ?_⟩
      rw [← l2]
      exact Int32.not_le.mp w2
    obtain ⟨y1, y2, y3, ⟨K, y4, y5, y6, y7⟩, ⟨W, y8, y9, y10, y11⟩⟩ := l1
    refine ⟨_, kk, _, z', o', P, S + 1, L, T, B, rfl, ?_, ⟨⟨c1.1, ⟨Nat.le_trans y2.1 (cap 0), c2⟩, ⟨i90, c3, sb2.1⟩, ⟨K, y4, by rw [qn _ _ (by decide) (by decide) (by decide) (by decide) (by omega)]; exact y5, Nat.le_trans y6 (cap 4), fun j hj => ?_⟩, ⟨W, y8, by rw [qn _ _ (by decide) (by decide) (by decide) (by decide) (by omega)]; exact y9, Nat.le_trans y10 (cap 5), fun j hj => ?_⟩⟩, ⟨by rw [qq _ _ (by decide) (by decide)]; exact l2, q19, by rw [qq _ _ (by decide) (by decide)]; exact l4, l5⟩, core_S l6 q26 q28 (fun F j a => qq F j (by omega) (by omega)) (fun F j hj a => qS F j hj (by omega)) (fun F j a => qn F j (by omega) (by omega) (by omega) (by omega) (by omega)), stat_S l7 sb2 (by rw [q21]; exact hl4) (by rw [q24]; exact hw4) (fun F j hj a => qS F j hj (by omega)) (fun F j a => qq F j (by omega) (by omega)) (fun F j a => qn F j (by omega) (by omega) (by omega) (by omega) (by omega)), Nat.le_trans l8 (cap 3), by rw [io _ _ (by decide) (by decide) (by decide), q60, q52], fun j => by rw [qq 36 j (by decide) (by decide), qq 7 j (by decide) (by decide)]; exact l10 j, ⟨fresh_S (fresh_cg (fun F j a => qq F j (by omega) (by omega)) l11.1), fun p hp => by rw [qq _ _ (by decide) (by decide)]; exact l11.2 p hp⟩, Or.inl q52, ⟨fun i hi => ?_, fun i hi => ?_⟩⟩, LF_zle (LF_gr hF) c1, LR_zle (LR_gr ⟨hR1, hR2⟩ (by omega) (by omega)) c1⟩
    · rw [← hx]
      simp only [grA]
      rw [if_neg (by omega)]
    · obtain ⟨p, p1, p2⟩ := y7 j hj
      exact ⟨p, by omega, by rw [qn _ _ (by decide) (by decide) (by decide) (by decide) (by omega)]; exact p2⟩
    · obtain ⟨p, p1, p2⟩ := y11 j hj
      exact ⟨p, by omega, by rw [qn _ _ (by decide) (by decide) (by decide) (by decide) (by omega)]; exact p2⟩
    · rw [qn _ _ (by decide) (by decide) (by decide) (by decide) (by omega)]
      rcases l13.1 i hi with u | ⟨p, p1, p2⟩
      · exact Or.inl u
      · exact Or.inr ⟨p, by omega, p2⟩
    · by_cases a : i = S
      · subst a
        rw [io _ _ (by decide) (by decide) (by decide), io _ _ (by decide) (by decide) (by decide), io _ _ (by decide) (by decide) (by decide), q82.1, q82.2.1, q82.2.2]
        exact ⟨Or.inl rfl, Or.inl rfl, Or.inl rfl⟩
      · rw [qn _ _ (by decide) (by decide) (by decide) (by decide) (by omega), qn _ _ (by decide) (by decide) (by decide) (by decide) (by omega), qn _ _ (by decide) (by decide) (by decide) (by decide) (by omega)]
        exact l13.2 i (by omega)
  · rw [if_neg e]
    have kk := shipX (g := g) (A := A) (z := z) (s := s) (o := o) (i := i) (l := l) (d := d) (t := t) (w := w) (q := q) (a7 := none) l1.1 l2 l3 e
    rw [hx] at kk
    have e2 : f_ship s i l d t w q = su s 0 0 (e_ship s l d t w) := by unfold f_ship; rw [if_neg e]
    rw [e2]
    exact ⟨_, kk, LI_bmp (LI_thr h0) hn⟩
end MA
