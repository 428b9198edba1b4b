/-! ===== the law from its start ===== -/
theorem nw_tb (K : xH) (n : Nat) (e : xE) : xnw K n e = tb K [e] n := by
  refine Prod.ext rfl (Prod.ext rfl (funext fun b => ?_))
  show (if b = K.1 then some e else K.2.2 b) = (if K.1 ≤ b then [e][b - K.1]? else none).or (K.2.2 b)
  by_cases h : b = K.1
  · subst h
    rw [if_pos rfl, if_pos (Nat.le_refl _), Nat.sub_self]
    rfl
  · rw [if_neg h]
    by_cases h2 : K.1 ≤ b
    · rw [if_pos h2]
      have e1 : [e][b - K.1]? = none := List.getElem?_eq_none (by simp only [List.length_cons, List.length_nil]; omega)
      rw [e1]
      rfl
    · rw [if_neg h2]
      rfl
/-- the heap as the law begins -/
def ks (g : Nat × Nat × Nat) (b N : Nat) (xs : Nat → Int32) : xH := (g.1, 0, fun a => if a = b then some (.inr (4, N, fun j => .int (xs j))) else if a = g.2.1 then some (.inr (5, 0, fun _ => .null)) else none)
section LO
variable {g : Nat × Nat × Nat} {b N n : Nat} {xs : Nat → Int32} {K : xH} {f : Nat → Value}
theorem nw_10 : xnw K n (.inl (10, fun j => xdf (xft 10 j))) = ob (nx K n) K.1 10 [.null, .null, .null, .null, .null, .null, .null, .null, .null, .null, .int 0, .int 0, .int 0, .int 0, .int 0] := by rw [oF_d (k := xft 10) (L := [2, 2, 2, 2, 2, 2, 2, 2, 2, 2, 0, 0, 0, 1, 1]) (fun _ => rfl)]; rfl
theorem nt_10 : xnw K n (.inl (10, fun j => xdf (xft 10 j))) = tb K [.inl (10, oF [.null, .null, .null, .null, .null, .null, .null, .null, .null, .null, .int 0, .int 0, .int 0, .int 0, .int 0])] n := nw_10.trans (nw_tb K n _)
theorem nt_11 : xnw K n (.inl (11, fun j => xdf (xft 11 j))) = tb K [.inl (11, oF [.int 0, .int 0, .int 0, .null, .null, .null, .null, .null, .null, .null, .null, .null, .null, .null, .null, .null, .null, .null, .int 0, .int 0, .null, .null, .null, .null, .null, .null, .null, .null, .null, .null, .null, .null, .null, .null, .null, .null, .null, .int 0, .null, .null, .int 0, .int 0, .int 0, .int 0, .null, .null, .null, .int 0, .int 0, .int 0, .null, .null, .int 0, .int 0, .null, .null])] n := nw_11.trans (nw_tb K n _)
theorem LV0 (hed : g.2.1 < g.1) (hbe : b ≠ g.2.1) : LV g (A00 g.1) (z00 g (ks g b N xs)) s00 o00 0 0 0 0 0 := by
  refine ⟨⟨zok0 (K := ks g b N xs) (Nat.le_refl _) ⟨hed, fun _ => .null, ?_⟩ ?_ ?_, ⟨Nat.zero_le _, Nat.zero_le _⟩, ⟨rfl, Nat.zero_le _, fun j h => absurd h (Nat.not_lt_zero j)⟩, ⟨0, Nat.zero_le _, rfl, Nat.zero_le _, fun j h => absurd h (Nat.not_lt_zero j)⟩, ⟨0, Nat.zero_le _, rfl, Nat.zero_le _, fun j h => absurd h (Nat.not_lt_zero j)⟩⟩, ⟨rfl, rfl, rfl, Nat.zero_le _⟩, core0, stat0, Nat.zero_le _, rfl, fun j => ⟨Or.inl rfl, Or.inl rfl⟩, few0, Or.inl rfl, ⟨fun j h => absurd h (Nat.not_lt_zero j), fun j h => absurd h (Nat.not_lt_zero j)⟩⟩
  · show (if g.2.1 = b then _ else if g.2.1 = g.2.1 then _ else _) = _
    rw [if_neg (fun q => hbe q.symm), if_pos rfl]
  · show g.1 + 20 ≤ g.1 + 500000
    omega
  · show 0 + 10971 ≤ 3000000
    omega
theorem LI0 (hb : b < g.1) (hed : g.2.1 < g.1) (hbe : b ≠ g.2.1) : LI g b N xs 0 s00 s00 (xnw (mput (g.1 + 20) s00 (g.1 + 20 + 42, 0 + 10971 + 46080, (cp (A00 g.1) (z00 g (ks g b N xs)) s00 o00).2.2)) 1 (.inr (3, 1, f))) := by
  have z1 : ∀ a, ¬ (g.1 ≤ a ∧ a < g.1 + 20) → (z00 g (ks g b N xs)).1.1 a = none := fun a h => by
    show (if g.1 ≤ a ∧ a < g.1 + 20 then _ else _) = _
    rw [if_neg h]
  have kb : ∀ a, (z00 g (ks g b N xs)).2.2.2 a = (ks g b N xs).2.2 a := fun a => rfl
  have Kx : ∀ a, a < g.1 → (fun a => if a = g.1 + 62 then some (.inr (3, 1, f)) else if g.1 + 20 ≤ a ∧ a ≤ g.1 + 20 + 41 then mcell (g.1 + 20) s00 (a - (g.1 + 20)) else (ks g b N xs).2.2 a : Nat → Option xE) a = (ks g b N xs).2.2 a := fun a h => by
    show (if a = g.1 + 62 then _ else _) = _
    rw [if_neg (by omega), if_neg (by omega)]
  have hr := LV_room (LV0 (N := N) (xs := xs) hed hbe)
  refine ⟨A00 g.1, ((z00 g (ks g b N xs)).1, (g.1 + 63, 57052, fun a => if a = g.1 + 62 then some (.inr (3, 1, f)) else if g.1 + 20 ≤ a ∧ a ≤ g.1 + 20 + 41 then mcell (g.1 + 20) s00 (a - (g.1 + 20)) else (ks g b N xs).2.2 a)), o00, 0, 0, 0, 0, 0, ?_, rfl, LV_h (LV0 hed hbe) ?_ ?_ ?_ ?_, ⟨fun a h1 h2 => ⟨z1 a (by omega), ?_⟩, ⟨z1 _ (by omega), f, ?_⟩, ⟨z1 _ (by omega), ?_⟩, hb, Nat.le_refl _⟩, ⟨?_, ?_⟩⟩
  · refine cp_ext ?_ ?_ (fun a => ?_)
    · show g.1 + 20 + 42 + 1 = g.1 + 63
      omega
    · show 0 + 10971 + 46080 + 1 = 57052
      omega
    · show (if a = g.1 + 20 + 42 then some (.inr (3, 1, f)) else if g.1 + 20 ≤ a ∧ a ≤ g.1 + 20 + 41 then mcell (g.1 + 20) s00 (a - (g.1 + 20)) else (cp (A00 g.1) (z00 g (ks g b N xs)) s00 o00).2.2 a) = _
      by_cases q : g.1 ≤ a ∧ a < g.1 + 20
      · rw [if_neg (by omega), if_neg (by omega)]
        have r : (z00 g (ks g b N xs)).1.1 a = some (rl0 (a - g.1), 0) := by
          show (if g.1 ≤ a ∧ a < g.1 + 20 then _ else _) = _
          rw [if_pos q]
          rfl
        simp only [cp, r]
        rfl
      · have e := cp_at_none (A := A00 g.1) (s := s00) (o := o00) (z1 a q)
        rw [e, kb]
        have e2 := cp_at_none (A := A00 g.1) (s := s00) (o := o00) (z := ((z00 g (ks g b N xs)).1, (g.1 + 63, 57052, fun a => if a = g.1 + 62 then some (.inr (3, 1, f)) else if g.1 + 20 ≤ a ∧ a ≤ g.1 + 20 + 41 then mcell (g.1 + 20) s00 (a - (g.1 + 20)) else (ks g b N xs).2.2 a))) (z1 a q)
        rw [e2]
  · show g.1 + 20 ≤ g.1 + 63
    omega
  · exact Kx _ hed
  · show g.1 + 63 ≤ g.1 + 500000 + _
    omega
  · show 57052 ≤ 3000000 + _
    omega
  · show (if a = g.1 + 62 then _ else _) = _
    rw [if_neg (by omega), if_pos ⟨h1, h2⟩]
  · show (if g.1 + 62 = g.1 + 62 then _ else _) = _
    rw [if_pos rfl]
  · refine (Kx _ hb).trans ?_
    show (if b = b then _ else _) = _
    rw [if_pos rfl]
  · show g.1 + 63 ≤ g.1 + 100 + 5 * 0 + _
    omega
  · show 57052 ≤ 60000 + 440 * 0 + _
    omega
/-- what is owed of the small machine: from the start on the law answers 1 -/
def LawOK : Prop := ∀ (g : Nat × Nat × Nat) (b L : Nat) (xs : Nat → Int32), L ≤ 3584 → b < g.1 → g.2.1 < g.1 → b ≠ g.2.1 →
  ∃ h1 : xH, Ev g 179 0 [some (.ref b), none, none, none, none, none, none] [] (g.1, 0, fun a => if a = b then some (.inr (4, L, fun j => .int (xs j))) else if a = g.2.1 then some (.inr (5, 0, fun _ => .null)) else none) (.inl (some (.int 1)), h1)
theorem lawOK : LawOK := by
  intro g b N xs hN hb hed hbe
  have l0 := LI0 (N := N) (xs := xs) (f := fun _ => xdf 3) hb hed hbe
  have r1 : xrm g (ks g b N xs) 15 = true := by
    unfold xrm
    rw [decide_eq_true_iff]
    exact ⟨by show g.1 + 1 ≤ _; omega, by show 0 + 15 ≤ _; omega⟩
  have k1 := in_X9 (g := g) (K := ks g b N xs) (Nat.le_refl _) ⟨by show g.1 + 100 ≤ _; omega, by show 0 + 20000 ≤ _; omega⟩
  rw [cp0] at k1
  have r2 : xrm g (cp (A00 (ks g b N xs).1) (z00 g (ks g b N xs)) s00 o00) 56 = true := by
    unfold xrm
    rw [decide_eq_true_iff]
    exact ⟨by show g.1 + 20 + 1 ≤ _; omega, by show 0 + 10971 + 56 ≤ _; omega⟩
  have k2 := in_X10 (g := g) (K := cp (A00 (ks g b N xs).1) (z00 g (ks g b N xs)) s00 o00) (by show g.1 ≤ g.1 + 20; omega) ⟨by show g.1 + 20 + 100 ≤ _; omega, by show 0 + 10971 + 60000 ≤ _; omega⟩
  rw [mp0] at k2
  have r3 : xrm g (mput (cp (A00 (ks g b N xs).1) (z00 g (ks g b N xs)) s00 o00).1 s00 ((cp (A00 (ks g b N xs).1) (z00 g (ks g b N xs)) s00 o00).1 + 42, (cp (A00 (ks g b N xs).1) (z00 g (ks g b N xs)) s00 o00).2.1 + 46080, (cp (A00 (ks g b N xs).1) (z00 g (ks g b N xs)) s00 o00).2.2)) (1 : Int32).toNatClampNeg = true := by
    unfold xrm
    rw [decide_eq_true_iff, show (1 : Int32).toNatClampNeg = 1 by decide +kernel]
    exact ⟨by show g.1 + 20 + 42 + 1 ≤ _; omega, by show 0 + 10971 + 46080 + 1 ≤ _; omega⟩
  obtain ⟨h1, hE⟩ := L_loop (g := g) (b := b) (N := N) (xs := xs) hN 512 0 0 s00 _ none none (by omega) (by omega) (by omega) l0
  refine ⟨h1, ?_⟩
  show Ev g 179 0 [some (.ref b), none, none, none, none, none, none] [] (ks g b N xs) _
  rw [e_L_law_0 r1, nt_10, e_L_law_3 rfl, c_L_law_4 rfl k1, e_L_law_7 rfl, e_L_law_8 r2, nt_11, e_L_law_11 rfl, c_L_law_12 rfl k2, e_L_law_15 rfl, e_L_law_16, e_L_law_17 (by decide) r3, e_L_law_19 rfl, e_L_law_20, e_L_law_21 rfl]
  exact hE
end LO
