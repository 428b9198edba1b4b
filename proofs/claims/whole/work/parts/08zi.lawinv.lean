/-! ===== the law's invariant and its heap ===== -/
/-- what undo can bring back -/
def und (s o : mS) (P S T : Nat) : Prop := s 52 0 = 0 ∨ (s 52 0 = 1 ∧ 1 ≤ T ∧ ∃ (s0 o0 : mS) (L0 : Nat), core s0 o0 P S L0 (T - 1) ∧ kpt s0 o0 o P S L0 ∧ was s s0 ∧ few s0 P S (T - 1))
def kref (o : mS) (P S : Nat) : Prop := (∀ i, i < P → vN (o 78 i) S) ∧ ∀ i, i < S → vN (o 82 i) P ∧ vN (o 83 i) P ∧ vN (o 84 i) P
/-- class and reference are in one state -/
def LV (g : Nat × Nat × Nat) (A : Nat → Nat → Nat) (z : zT) (s o : mS) (P S L T B : Nat) : Prop :=
  zo g A z o P S ∧ (s 2 0 = nI P ∧ s 19 0 = nI S ∧ s 1 0 = nI T ∧ T ≤ 9599) ∧ core s o P S L T ∧ stat s o P S B ∧ L ≤ z.1.2.2 3 ∧ o 60 0 = s 52 0 ∧ (∀ j, (s 36 j = 0 ∨ s 36 j = 1) ∧ (s 7 j = 0 ∨ s 7 j = 1)) ∧ few s P S T ∧ und s o P S T ∧ kref o P S
/-- what lies beside the class's objects: the reference in the state s1, the answer's row, the script -/
def LF (g : Nat × Nat × Nat) (b N : Nat) (xs : Nat → Int32) (z : zT) (s1 : mS) : Prop :=
  (∀ a, g.1 + 20 ≤ a → a ≤ g.1 + 20 + 41 → z.1.1 a = none ∧ z.2.2.2 a = mcell (g.1 + 20) s1 (a - (g.1 + 20))) ∧ (z.1.1 (g.1 + 62) = none ∧ ∃ f, z.2.2.2 (g.1 + 62) = some (.inr (3, 1, f))) ∧ (z.1.1 b = none ∧ z.2.2.2 b = some (.inr (4, N, fun j => .int (xs j)))) ∧ b < g.1 ∧ g.1 + 63 ≤ z.2.1
def LR (g : Nat × Nat × Nat) (n : Nat) (z : zT) : Prop := z.2.1 ≤ g.1 + 100 + 5 * n + cps z ∧ z.2.2.1 ≤ 60000 + 440 * n + sqs z
def LI (g : Nat × Nat × Nat) (b N : Nat) (xs : Nat → Int32) (n : Nat) (s1 s : mS) (H : xH) : Prop := ∃ (A : Nat → Nat → Nat) (z : zT) (o : mS) (P S L T B : Nat), H = cp A z s o ∧ A 0 0 = g.1 ∧ LV g A z s o P S L T B ∧ LF g b N xs z s1 ∧ LR g n z
section LW
variable {g : Nat × Nat × Nat} {A : Nat → Nat → Nat} {z z' : zT} {s o s' o' s1 : mS} {P S L T B b N n : Nat} {xs : Nat → Int32} {H K : xH}
theorem zo_h (h : zo g A z o P S) (h1 : z.2.1 ≤ K.1) (h2 : K.2.2 g.2.1 = z.2.2.2 g.2.1) (h3 : K.1 ≤ g.1 + 500000 + cps z) (h4 : K.2.1 ≤ 3000000 + sqs z) : zo g A (z.1, K) o P S := by
  obtain ⟨⟨a, c, d, ⟨e, f⟩, u, v, -⟩, r⟩ := h
  exact ⟨⟨fun k i hl => ⟨(a k i hl).1, (a k i hl).2.1, Nat.lt_of_lt_of_le (a k i hl).2.2 h1⟩, c, d, ⟨e, by rw [h2]; exact f⟩, u, v, h3, h4⟩, r⟩
theorem LV_h (h : LV g A z s o P S L T B) (h1 : z.2.1 ≤ K.1) (h2 : K.2.2 g.2.1 = z.2.2.2 g.2.1) (h3 : K.1 ≤ g.1 + 500000 + cps z) (h4 : K.2.1 ≤ 3000000 + sqs z) : LV g A (z.1, K) s o P S L T B :=
  ⟨zo_h h.1 h1 h2 h3 h4, h.2⟩
theorem LV_room (h : LV g A z s o P S L T B) : z.2.1 ≤ g.1 + 500000 + cps z ∧ z.2.2.1 ≤ 3000000 + sqs z := h.1.1.2.2.2.2.2.2
theorem LF_zle (h : LF g b N xs z s1) (hz : zle g A z z' P S) : LF g b N xs z' s1 := by
  obtain ⟨h1, ⟨h2, f, h3⟩, ⟨h4, h5⟩, h6, h7⟩ := h
  obtain ⟨-, q1, q2, -⟩ := hz
  refine ⟨fun a a1 a2 => ?_, ?_, ?_, h6, by omega⟩
  · obtain ⟨u, v⟩ := h1 a a1 a2
    obtain ⟨p, q⟩ := q2 a (by omega) u
    exact ⟨p, q.trans v⟩
  · obtain ⟨p, q⟩ := q2 _ (by omega) h2
    exact ⟨p, f, q.trans h3⟩
  · obtain ⟨p, q⟩ := q2 _ (by omega) h4
    exact ⟨p, q.trans h5⟩
theorem LR_zle (h : LR g n z) (hz : zle g A z z' P S) : LR g n z' := by
  obtain ⟨-, -, -, ⟨q1, q2⟩, -⟩ := hz
  obtain ⟨a, c⟩ := h
  exact ⟨by omega, by omega⟩
theorem LR_up (h : LR g n z) : LR g (n + 1) z := ⟨by have := h.1; omega, by have := h.2; omega⟩
theorem LI_up (h : LI g b N xs n s1 s H) : LI g b N xs (n + 1) s1 s H := by
  obtain ⟨A, z, o, P, S, L, T, B, h1, h2, h3, h4, h5⟩ := h
  exact ⟨A, z, o, P, S, L, T, B, h1, h2, h3, h4, LR_up h5⟩
theorem LI_heap (h : LI g b N xs n s1 s H) : mput (g.1 + 20) s1 H = H := by
  obtain ⟨A, z, o, P, S, L, T, B, rfl, -, -, h, -⟩ := h
  refine (mput_eq rfl rfl (fun a => ?_)).symm
  by_cases q : g.1 + 20 ≤ a ∧ a ≤ g.1 + 20 + 41
  · simp only [mput, if_pos q]
    rw [cp_at_none (h.1 a q.1 q.2).1]
    exact (h.1 a q.1 q.2).2
  · simp only [mput, if_neg q]
theorem LI_move (h : LI g b N xs n s1 s H) : LI g b N xs n s s (mput (g.1 + 20) s H) := by
  obtain ⟨A, z, o, P, S, L, T, B, rfl, hx, hV, hF, hR⟩ := h
  have hr := LV_room hV
  have he : g.2.1 < g.1 := hV.1.1.2.2.2.1.1
  refine ⟨A, (z.1, mput (g.1 + 20) s z.2), o, P, S, L, T, B, ?_, hx, LV_h hV (Nat.le_refl _) ?_ hr.1 hr.2, ⟨fun a h1 h2 => ⟨(hF.1 a h1 h2).1, ?_⟩, ⟨hF.2.1.1, ?_⟩, ⟨hF.2.2.1.1, ?_⟩, hF.2.2.2.1, hF.2.2.2.2⟩, hR⟩
  · refine cp_ext rfl rfl (fun a => ?_)
    by_cases q : g.1 + 20 ≤ a ∧ a ≤ g.1 + 20 + 41
    · rw [cp_at_none (z := (z.1, mput (g.1 + 20) s z.2)) (hF.1 a q.1 q.2).1]
      simp only [mput, if_pos q]
    · simp only [mput, if_neg q, cp]
      rfl
  · simp only [mput]
    rw [if_neg (by omega)]
  · simp only [mput]
    rw [if_pos ⟨h1, h2⟩]
  · obtain ⟨f, hf⟩ := hF.2.1.2
    refine ⟨f, ?_⟩
    simp only [mput]
    rw [if_neg (by omega)]
    exact hf
  · simp only [mput]
    rw [if_neg (by have := hF.2.2.2.1; omega)]
    exact hF.2.2.1.2
theorem LI_facts (h : LI g b N xs n s1 s H) : xO H g.1 10 = true ∧ xO H (g.1 + 20) 11 = true ∧ (xA H (g.1 + 62) 3 = true ∧ xl H (g.1 + 62) = 1) ∧ H.2.2 b = some (.inr (4, N, fun j => .int (xs j))) := by
  have e := LI_heap h
  obtain ⟨A, z, o, P, S, L, T, B, rfl, hx, hV, hF, hR⟩ := h
  refine ⟨by rw [← hx]; exact cO_0 hV.1.1, by rw [← e]; exact mO _ _ _, ?_, ?_⟩
  · obtain ⟨f, hf⟩ := hF.2.1.2
    simp [xA, xl, cp_at_none hF.2.1.1, hf]
  · rw [cp_at_none hF.2.2.1.1]
    exact hF.2.2.1.2
theorem LI_script (h : LI g b N xs n s1 s H) : xA H b 4 = true ∧ xl H b = N ∧ ∀ j, xe H b j = .int (xs j) := by
  have e := (LI_facts h).2.2.2
  simp [xA, xl, xe, e]
theorem mput_out (s : mS) (H : xH) (j : Nat) : xe (mput (g.1 + 20) s H) (g.1 + 62) j = xe H (g.1 + 62) j := by
  have : ¬ (g.1 + 20 ≤ g.1 + 62 ∧ g.1 + 62 ≤ g.1 + 20 + 41) := by omega
  simp only [xe, mput, if_neg this]
theorem LI_out (h : LI g b N xs n s1 s H) (v : Value) : LI g b N xs n s1 s (xpe H (g.1 + 62) 0 v) ∧ xe (xpe H (g.1 + 62) 0 v) (g.1 + 62) 0 = v := by
  obtain ⟨A, z, o, P, S, L, T, B, rfl, hx, hV, hF, hR⟩ := h
  have hr := LV_room hV
  have he : g.2.1 < g.1 := hV.1.1.2.2.2.1.1
  obtain ⟨f, hf⟩ := hF.2.1.2
  have hc : (cp A z s o).2.2 (g.1 + 62) = some (.inr (3, 1, f)) := by rw [cp_at_none hF.2.1.1]; exact hf
  rw [xpe_eq 0 v hc]
  refine ⟨⟨A, (z.1, xpc z.2 (g.1 + 62) (.inr (3, 1, updV f 0 v))), o, P, S, L, T, B, ?_, hx, LV_h hV (Nat.le_refl _) ?_ hr.1 hr.2, ⟨fun a h1 h2 => ⟨(hF.1 a h1 h2).1, ?_⟩, ⟨hF.2.1.1, updV f 0 v, ?_⟩, ⟨hF.2.2.1.1, ?_⟩, hF.2.2.2.1, hF.2.2.2.2⟩, hR⟩, ?_⟩
  · refine cp_ext rfl rfl (fun a => ?_)
    by_cases q : a = g.1 + 62
    · subst q
      rw [cp_at_none (z := (z.1, xpc z.2 (g.1 + 62) (.inr (3, 1, updV f 0 v)))) hF.2.1.1]
      simp only [xpc, if_true]
    · simp only [xpc, if_neg q, cp]
      rfl
  · simp only [xpc]
    rw [if_neg (by omega)]
  · simp only [xpc]
    rw [if_neg (by omega)]
    exact (hF.1 a h1 h2).2
  · simp only [xpc, if_true]
  · simp only [xpc]
    rw [if_neg (by have := hF.2.2.2.1; omega)]
    exact hF.2.2.1.2
  · simp [xe, xpc, updV]
/-- a cell that nobody has, and room -/
theorem LI_more {c m : Nat} {e : Nat → Option xE} (h : LI g b N xs n s1 s H) (hn : n ≤ 1100) (hc : c ≤ 5) (hm : m ≤ 440) (he : ∀ a, a < H.1 → e a = H.2.2 a) (he2 : ∀ a, H.1 ≤ a → c = 0 → e a = H.2.2 a) : LI g b N xs (n + 1) s1 s (H.1 + c, H.2.1 + m, e) := by
  obtain ⟨A, z, o, P, S, L, T, B, rfl, hx, hV, hF, hR⟩ := h
  have hY := hV.1.1
  have hed : g.2.1 < g.1 := hY.2.2.2.1.1
  have hz1 : ∀ a, z.1.1 a ≠ none → a < z.2.1 := fun a h => by
    cases hr : z.1.1 a with
    | none => exact absurd hr h
    | some r =>
      obtain ⟨hl, q⟩ := hY.2.1 a r.1 r.2 hr
      rw [q]
      exact (hY.1 _ _ hl).2.2
  have he' : ∀ a, a < z.2.1 → e a = (cp A z s o).2.2 a := he
  have f7 := hF.2.2.2.2
  have f6 := hF.2.2.2.1
  have hR1 := hR.1
  have hR2 := hR.2
  have en : ∀ a, a < z.2.1 → z.1.1 a = none → e a = z.2.2.2 a := fun a h1 h2 => (he' a h1).trans (cp_at_none h2)
  have ged : z.1.1 g.2.1 = none := by
    cases hr : z.1.1 g.2.1 with
    | none => rfl
    | some r =>
      obtain ⟨hl, q⟩ := hY.2.1 _ r.1 r.2 hr
      have := (hY.1 _ _ hl).2.1
      omega
  refine ⟨A, (z.1, (z.2.1 + c, z.2.2.1 + m, e)), o, P, S, L, T, B, ?_, hx, LV_h hV (Nat.le_add_right _ _) (en _ (by omega) ged) (by simp only; omega) (by simp only; omega), ⟨fun a h1 h2 => ⟨(hF.1 a h1 h2).1, (en a (by omega) (hF.1 a h1 h2).1).trans (hF.1 a h1 h2).2⟩, ⟨hF.2.1.1, ?_⟩, ⟨hF.2.2.1.1, (en b (by omega) hF.2.2.1.1).trans hF.2.2.1.2⟩, f6, by simp only; omega⟩, ⟨?_, ?_⟩⟩
  · refine cp_ext rfl rfl (fun a => ?_)
    cases hr : z.1.1 a with
    | none => rw [cp_at_none (z := (z.1, (z.2.1 + c, z.2.2.1 + m, e))) hr]
    | some r =>
      rw [show (cp A z s o).1 = z.2.1 from rfl, show (cp A z s o).2.1 = z.2.2.1 from rfl]
      have hlt := hz1 a (by rw [hr]; simp)
      show e a = _
      rw [he' a hlt]
      simp only [cp, hr]
      rfl
  · obtain ⟨f, hf⟩ := hF.2.1.2
    exact ⟨f, (en _ (by omega) hF.2.1.1).trans hf⟩
  · show z.2.1 + c ≤ g.1 + 100 + 5 * (n + 1) + cps z
    omega
  · show z.2.2.1 + m ≤ 60000 + 440 * (n + 1) + sqs z
    omega
theorem LI_bmp (h : LI g b N xs n s1 s H) (hn : n ≤ 1100) : LI g b N xs (n + 1) s1 s (bmp H) := LI_more h hn (c := 1) (m := 6) (by omega) (by omega) (fun _ _ => rfl) (fun _ _ _ => rfl)
theorem LI_row {c : Nat → Int32} (h : LI g b N xs n s1 s H) (hn : n ≤ 1100) : LI g b N xs (n + 1) s1 s (tput H.1 3 c (H.1 + 1, H.2.1 + 3, H.2.2)) :=
  LI_more h hn (c := 1) (m := 3) (by omega) (by omega) (fun a h => by
    show (if a = H.1 then _ else _) = _
    rw [if_neg (by omega)]) (fun _ _ h => absurd h (by omega))
theorem LV_thr {e : Int32} (h : LV g A z s o P S L T B) : LV g A z (su s 0 0 e) o P S L T B := by
  obtain ⟨h1, ⟨h2, h3, h4, h5⟩, h6, h7, h8, h9, h10, h11, h12, h13⟩ := h
  have q : ∀ F j, F ≠ 0 → su s 0 0 e F j = s F j := fun F j h => su_other _ _ h
  refine ⟨h1, ⟨by rw [q _ _ (by decide)]; exact h2, by rw [q _ _ (by decide)]; exact h3, by rw [q _ _ (by decide)]; exact h4, h5⟩, core_cg (fun F j h => q _ _ (by omega)) (fun _ _ _ => rfl) h6, stat_cg (fun F j h => q _ _ (by omega)) (fun _ _ _ => rfl) (tOK_cg (fun F j h => q _ _ (by omega)) h7.1.2.2) h7, h8, by rw [q _ _ (by decide)]; exact h9, fun j => by rw [q _ _ (by decide), q _ _ (by decide)]; exact h10 j, few_cg (fun F j h => q _ _ (by omega)) h11, ?_, h13⟩
  rcases h12 with u | ⟨u1, u2, s0, o0, L0, u3, u4, u5, u6⟩
  · exact Or.inl (by rw [q _ _ (by decide)]; exact u)
  · exact Or.inr ⟨by rw [q _ _ (by decide)]; exact u1, u2, s0, o0, L0, u3, u4, was_o u5 (q _ _ (by decide)) (fun j => q _ _ (by decide)) (fun j => q _ _ (by decide)), u6⟩
theorem LI_thr {e : Int32} (h : LI g b N xs n s1 s H) : LI g b N xs n s1 (su s 0 0 e) H := by
  obtain ⟨A, z, o, P, S, L, T, B, rfl, hx, hV, hF, hR⟩ := h
  exact ⟨A, z, o, P, S, L, T, B, (cp_x hV.1.1 (fun F j h0 _ _ _ _ => su_other _ _ h0)).symm, hx, LV_thr hV, hF, hR⟩
/-- a call of the reference, behind the class's -/
def MS (g : Nat × Nat × Nat) (b N : Nat) (xs : Nat → Int32) (n : Nat) (s s' : mS) (M : Nat) (as : List (Option Value)) (r : Option Value) : Prop := ∀ H, LI g b N xs (n + 1) s s' H → ∃ H3, Ev g M 0 as [] H (.inl r, H3) ∧ LI g b N xs (n + 2) s' s' H3 ∧ xe H3 (g.1 + 62) 0 = xe H (g.1 + 62) 0
theorem MS_of {M : Nat} {as : List (Option Value)} {r : Option Value} (k : ∀ h, Ev g M 0 as [] (mput (g.1 + 20) s h) (.inl r, mput (g.1 + 20) s' h)) : MS g b N xs n s s' M as r := by
  intro H h
  have k2 := k H
  rw [LI_heap h] at k2
  exact ⟨_, k2, LI_up (LI_move h), mput_out _ _ _⟩
/-- what a setter asks -/
theorem LV_set {B' : Nat} (h : LV g A z s o P S L T B) (hs : ∀ F j, F = 1 ∨ F = 2 ∨ (8 ≤ F ∧ F ≤ 19) ∨ (26 ≤ F ∧ F ≤ 33) → s' F j = s F j) (ho : ∀ F j, 62 < F → o' F j = o F j) (h52 : s' 52 0 = 0) (h60 : o' 60 0 = 0) (hst : stat s' o' P S B') (h36 : ∀ j, (s' 36 j = 0 ∨ s' 36 j = 1) ∧ (s' 7 j = 0 ∨ s' 7 j = 1)) (h7 : ∀ p, P ≤ p → p < 60 → ∀ d, d < 400 → s' 7 (400 * p + d) = s 7 (400 * p + d)) : LV g A z s' o' P S L T B' := by
  obtain ⟨h1, ⟨h2, h3, h4, h5⟩, h6, -, h8, -, -, h11, -, h13⟩ := h
  refine ⟨zo_o h1 (ho _ _ (by decide)) (ho _ _ (by decide)) (ho _ _ (by decide)) (fun j => ho _ _ (by decide)) (fun j => ho _ _ (by decide)) (fun j => ho _ _ (by decide)), ⟨by rw [hs _ _ (by decide)]; exact h2, by rw [hs _ _ (by decide)]; exact h3, by rw [hs _ _ (by decide)]; exact h4, h5⟩, core_cg (fun F j h => hs _ _ (by omega)) (fun F j h => ho _ _ (by omega)) h6, hst, h8, by rw [h60, h52], h36, ⟨⟨fun p a c => ?_, fun x a c => ?_⟩, fun p hp => ?_⟩, Or.inl h52, ⟨fun i hi => ?_, fun i hi => ?_⟩⟩
  · obtain ⟨u, v, w, y⟩ := h11.1.1 p a c
    exact ⟨by rw [hs _ _ (by decide)]; exact u, by rw [hs _ _ (by decide)]; exact v, by rw [hs _ _ (by decide)]; exact w, fun d hd => by rw [h7 p a c d hd]; exact y d hd⟩
  · obtain ⟨u, v, w⟩ := h11.1.2 x a c
    exact ⟨by rw [hs _ _ (by decide)]; exact u, by rw [hs _ _ (by decide)]; exact v, by rw [hs _ _ (by decide)]; exact w⟩
  · rw [hs _ _ (by decide)]; exact h11.2 p hp
  · rw [ho _ _ (by decide)]; exact h13.1 i hi
  · rw [ho _ _ (by decide), ho _ _ (by decide), ho _ _ (by decide)]; exact h13.2 i hi
theorem stat_tOK (h : LV g A z s o P S L T B) : tOK s := h.2.2.2.1.1.2.2
theorem stat_same (h : LV g A z s o P S L T B) (hs : ∀ F j, F = 3 ∨ F = 7 ∨ F = 21 ∨ F = 24 ∨ (35 ≤ F ∧ F ≤ 39) → s' F j = s F j) (ho : ∀ F j, F = 61 ∨ F = 62 ∨ F = 93 → o' F j = o F j) : stat s' o' P S B :=
  stat_cg (fun F j q => hs F j (by omega)) ho (tOK_cg (fun F j q => hs F j (by omega)) (stat_tOK h)) h.2.2.2.1
end LW
