/-! ===== one call of each: questions ===== -/
section LY
variable {g : Nat × Nat × Nat} {b N n : Nat} {xs : Nat → Int32} {s : mS} {H : xH}
theorem B_may {p x : Int32} (hn : n ≤ 1100) (h : LI g b N xs n s s H) : (∃ H1, Ev g 69 0 [some (.ref g.1), some (.int p), some (.int x), none] [] H (if e_may s p x = 0 then .inl (some (.int (q_may s p x))) else .inr 1, H1) ∧ LI g b N xs (n + 1) s (su s 0 0 (e_may s p x)) H1) ∧ MS g b N xs n s (su s 0 0 (e_may s p x)) 152 [some (.ref (g.1 + 20)), some (.int p), some (.int x)] (some (.int (q_may s p x))) := by
  have h0 := h
  obtain ⟨A, z, o, P, S, L, T, B, rfl, hx, hV, hF, hR⟩ := h
  have k := cd_may (g := g) (A := A) (z := z) (s := s) (o := o) (p := p) (x := x) (a3 := none) hV.1 hV.2.1.1 hV.2.1.2.1 hV.2.2.2.1.1.1
  rw [hx] at k
  refine ⟨?_, MS_of (fun h => md_may hV.2.1.1 hV.1.1.2.2.2.2.2.1.1 hV.2.1.2.1 hV.1.1.2.2.2.2.2.1.2 hV.2.2.2.1.1.1 (by omega))⟩
  by_cases e : e_may s p x = 0
  · rw [if_pos e] at k ⊢
    exact ⟨_, k, LI_up (LI_thr h0)⟩
  · rw [if_neg e] at k ⊢
    exact ⟨_, k, LI_bmp (LI_thr h0) hn⟩
theorem B_window {x t : Int32} (hn : n ≤ 1100) (h : LI g b N xs n s s H) : (∃ H1, Ev g 70 0 [some (.ref g.1), some (.int x), some (.int t)] [] H (if e_shp s x = 0 then .inl (some (.int (q_win s x t))) else .inr 1, H1) ∧ LI g b N xs (n + 1) s (su s 0 0 (e_shp s x)) H1) ∧ MS g b N xs n s (su s 0 0 (e_shp s x)) 153 [some (.ref (g.1 + 20)), some (.int x), some (.int t)] (some (.int (q_win s x t))) := by
  have h0 := h
  obtain ⟨A, z, o, P, S, L, T, B, rfl, hx, hV, hF, hR⟩ := h
  have k := cd_window (g := g) (A := A) (z := z) (s := s) (o := o) (x := x) (t := t) hV.1 hV.2.1.2.1 (stat_tOK hV)
  rw [hx] at k
  refine ⟨?_, MS_of (fun h => md_window hV.2.1.2.1 hV.1.1.2.2.2.2.2.1.2 (by omega))⟩
  by_cases e : e_shp s x = 0
  · rw [if_pos e] at k ⊢
    exact ⟨_, k, LI_up (LI_thr h0)⟩
  · rw [if_neg e] at k ⊢
    exact ⟨_, k, LI_bmp (LI_thr h0) hn⟩
theorem B_look {p w : Int32} (hn : n ≤ 1100) (h : LI g b N xs n s s H) : (∃ H1, Ev g 74 0 [some (.ref g.1), some (.int p), some (.int w), none] [] H (if e_look s p w = 0 then .inl (some (.int (q_look s p w))) else .inr (if e_look s p w = 1 then 1 else 0), H1) ∧ LI g b N xs (n + 1) s (su s 0 0 (e_look s p w)) H1) ∧ MS g b N xs n s (su s 0 0 (e_look s p w)) 158 [some (.ref (g.1 + 20)), some (.int p), some (.int w)] (some (.int (q_look s p w))) := by
  have h0 := h
  obtain ⟨A, z, o, P, S, L, T, B, rfl, hx, hV, hF, hR⟩ := h
  have k := cd_look (g := g) (A := A) (z := z) (s := s) (o := o) (p := p) (w := w) (a3 := none) hV.1 hV.2.1.1 hV.2.2.1.1 hV.2.2.2.2.1 hV.2.2.1.2.2.1 hV.2.2.2.1.2.2.2.2.1
  rw [hx] at k
  refine ⟨?_, MS_of (fun h => md_look hV.2.1.1 hV.1.1.2.2.2.2.2.1.1 hV.2.2.1.1 (by omega))⟩
  by_cases e : e_look s p w = 0
  · rw [if_pos e] at k ⊢
    exact ⟨_, k, LI_up (LI_thr h0)⟩
  · rw [if_neg e] at k ⊢
    exact ⟨_, k, LI_bmp (LI_thr h0) hn⟩
theorem B_craft {x w : Int32} (hn : n ≤ 1100) (h : LI g b N xs n s s H) : (∃ H1, Ev g 75 0 [some (.ref g.1), some (.int x), some (.int w), none] [] H (if e_craft s x w = 0 then .inl (some (.int (q_craft s x w))) else .inr (if e_craft s x w = 1 then 1 else 0), H1) ∧ LI g b N xs (n + 1) s (su s 0 0 (e_craft s x w)) H1) ∧ MS g b N xs n s (su s 0 0 (e_craft s x w)) 159 [some (.ref (g.1 + 20)), some (.int x), some (.int w)] (some (.int (q_craft s x w))) := by
  have h0 := h
  obtain ⟨A, z, o, P, S, L, T, B, rfl, hx, hV, hF, hR⟩ := h
  have k := cd_craft (g := g) (A := A) (z := z) (s := s) (o := o) (x := x) (w := w) (a3 := none) hV.1 hV.2.1.2.1 hV.2.2.1.2.1
  rw [hx] at k
  refine ⟨?_, MS_of (fun h => md_craft hV.2.1.2.1 hV.1.1.2.2.2.2.2.1.2 (by omega))⟩
  by_cases e : e_craft s x w = 0
  · rw [if_pos e] at k ⊢
    exact ⟨_, k, LI_up (LI_thr h0)⟩
  · rw [if_neg e] at k ⊢
    exact ⟨_, k, LI_bmp (LI_thr h0) hn⟩
theorem B_seats {t v : Int32} (h : LI g b N xs n s s H) : ∃ r, (∃ H1, Ev g 71 0 [some (.ref g.1), some (.int t), some (.int v)] [] H (.inl (some (.int r)), H1) ∧ LI g b N xs (n + 1) s (su s 0 0 0) H1) ∧ MS g b N xs n s (su s 0 0 0) 154 [some (.ref (g.1 + 20)), some (.int t), some (.int v)] (some (.int r)) := by
  have h0 := h
  obtain ⟨A, z, o, P, S, L, T, B, rfl, hx, hV, hF, hR⟩ := h
  have k := cd_seats (g := g) (A := A) (z := z) (s := s) (o := o) (t := t) (v := v) (B := B) hV.1.1 hV.2.2.2.1.2.2.2.1
  rw [hx] at k
  exact ⟨_, ⟨_, k, LI_up (LI_thr h0)⟩, MS_of (fun h => md_seats hV.2.2.2.1.2.2.2.2.2.2.1 hV.2.2.2.1.2.2.2.2.2.2.2 (by omega))⟩
theorem B_list {k1 : Int32} (h : LI g b N xs n s s H) : ∃ r, (∃ H1, Ev g 72 0 [some (.ref g.1), some (.int k1)] [] H (.inl (some (.int r)), H1) ∧ LI g b N xs (n + 1) s (su s 0 0 0) H1) ∧ MS g b N xs n s (su s 0 0 0) 155 [some (.ref (g.1 + 20)), some (.int k1)] (some (.int r)) := by
  have h0 := h
  obtain ⟨A, z, o, P, S, L, T, B, rfl, hx, hV, hF, hR⟩ := h
  have h6 := hV.1.1.2.2.2.2.2.1.1
  have hLP := hV.2.2.1.1.2.1
  have k := cd_list (g := g) (A := A) (z := z) (s := s) (o := o) (k := k1) hV.1.1 hV.2.2.1.1 hV.2.2.2.2.1
  rw [hx] at k
  exact ⟨_, ⟨_, k, LI_up (LI_thr h0)⟩, MS_of (fun h => md_list hV.2.2.1.1.1 (by omega) (by omega))⟩
theorem B_asked {i w : Int32} (h : LI g b N xs n s s H) : ∃ r, (∃ H1, Ev g 73 0 [some (.ref g.1), some (.int i), some (.int w)] [] H (.inl (some (.int r)), H1) ∧ LI g b N xs (n + 1) s (su s 0 0 0) H1) ∧ MS g b N xs n s (su s 0 0 0) 156 [some (.ref (g.1 + 20)), some (.int i), some (.int w)] (some (.int r)) := by
  have h0 := h
  obtain ⟨A, z, o, P, S, L, T, B, rfl, hx, hV, hF, hR⟩ := h
  have k := cd_asked (g := g) (A := A) (z := z) (s := s) (o := o) (i := i) (v := w) hV.1.1
  rw [hx] at k
  exact ⟨_, ⟨_, k, LI_up (LI_thr h0)⟩, MS_of (fun h => md_asked (by omega))⟩
theorem B_count {w : Int32} (h : LI g b N xs n s s H) : ∃ r, (∃ H1, Ev g 77 0 [some (.ref g.1), some (.int w)] [] H (.inl (some (.int r)), H1) ∧ LI g b N xs (n + 1) s (su s 0 0 0) H1) ∧ MS g b N xs n s (su s 0 0 0) 163 [some (.ref (g.1 + 20)), some (.int w)] (some (.int r)) := by
  have h0 := h
  obtain ⟨A, z, o, P, S, L, T, B, rfl, hx, hV, hF, hR⟩ := h
  have k := cd_count (g := g) (A := A) (z := z) (s := s) (o := o) (w := w) hV.1 hV.2.1.1 hV.2.1.2.1 hV.2.2.1.1 hV.2.2.2.2.1 hV.2.2.1.2.2.1 hV.2.2.2.1.2.2.2.2.1 hV.2.2.1.2.1
  rw [hx] at k
  exact ⟨_, ⟨_, k, LI_up (LI_thr h0)⟩, MS_of (fun h => md_count hV.2.1.1 hV.1.1.2.2.2.2.2.1.1 hV.2.1.2.1 hV.1.1.2.2.2.2.2.1.2 (by omega))⟩
theorem B_fair (h : LI g b N xs n s s H) : ∃ r, (∃ H1, Ev g 76 0 [some (.ref g.1), none, none, none, none] [] H (.inl (some (.int r)), H1) ∧ LI g b N xs (n + 1) s (su s 0 0 0) H1) ∧ MS g b N xs n s (su s 0 0 0) 160 [some (.ref (g.1 + 20)), none, none, none, none] (some (.int r)) := by
  have h0 := h
  obtain ⟨A, z, o, P, S, L, T, B, rfl, hx, hV, hF, hR⟩ := h
  have hT := hV.2.1.2.2.2
  have hf : ∀ p, ∃ t, p < P → (s 11 p = nI t ∧ t < 2 ^ 30) := fun p => by
    by_cases hp : p < P
    · obtain ⟨t, h1, h2⟩ := hV.2.2.2.2.2.2.2.1.2 p hp
      exact ⟨t, fun _ => ⟨h2, by omega⟩⟩
    · exact ⟨0, fun w => absurd w hp⟩
  have k := cd_fair (g := g) (A := A) (z := z) (s := s) (o := o) (t := fun p => Classical.choose (hf p)) (a1 := none) (a2 := none) (a3 := none) (a4 := none) hV.1 hV.2.1.1 (fun p hp => Classical.choose_spec (hf p) hp) hV.2.2.2.1.2.2.2.2.1
  rw [hx] at k
  exact ⟨_, ⟨_, k, LI_up (LI_thr h0)⟩, MS_of (fun h => md_fair hV.2.1.1 hV.1.1.2.2.2.2.2.1.1 (by omega))⟩
end LY
