/-! ===== one call of each: swap, undo, hour, back ===== -/
section LZ
variable {g : Nat × Nat × Nat} {b N n : Nat} {xs : Nat → Int32} {s : mS} {H : xH}
theorem fswap_o (s : mS) (x y : Int32) : ∀ F j, F ≠ 0 → F ≠ 13 → F ≠ 28 → f_swap s x y F j = s F j := by
  intro F j h0 h1 h2
  unfold f_swap
  split
  · split
    · simp only [w_swap, su_get, h0, h1, h2, false_and, if_false]
    · simp only [su_get, h0, false_and, if_false]
  · simp only [su_get, h0, false_and, if_false]
theorem B_swap {x y : Int32} (hn : n ≤ 1100) (h : LI g b N xs n s s H) : (∃ H1, Ev g 67 0 [some (.ref g.1), some (.int x), some (.int y), none, none, none, none] [] H (if v_swap s x y then .inl (some (.int (q_swap s x y))) else .inr 1, H1) ∧ LI g b N xs (n + 1) s (f_swap s x y) H1) ∧ MS g b N xs n s (f_swap s x y) 151 [some (.ref (g.1 + 20)), some (.int x), some (.int y), none, none] (some (.int (q_swap s x y))) := by
  have h0 := h
  obtain ⟨A, z, o, P, S, L, T, B, rfl, hx, hV, hF, hR⟩ := h
  have h6 := hV.1.1.2.2.2.2.2.1.1
  have h4 := hV.1.1.2.2.2.2.2.1.2
  have k := cd_swap (g := g) (A := A) (z := z) (s := s) (o := o) (x := x) (y := y) (a3 := none) (a4 := none) (a5 := none) (a6 := none) hV.1 hV.2.1.2.1 hV.2.2.2.1.1.1 hV.2.2.1.2.1
  rw [hx] at k
  refine ⟨?_, MS_of (fun h => md_swap h6 hV.2.1.2.1 h4 hV.2.2.2.1.1.1 (fun y hy => (hV.2.2.1.2.1 y hy).2.2.1) (by omega))⟩
  by_cases e : v_swap s x y
  · rw [if_pos e] at k ⊢
    have q := fswap_o s x y
    obtain ⟨l1, ⟨l2, l3, l4, l5⟩, l6, l7, l8, l9, l10, l11, l12, l13⟩ := hV
    refine ⟨_, k, A, z, o, P, S, L, T, B, rfl, hx, ⟨l1, ⟨by rw [q _ _ (by decide) (by decide) (by decide)]; exact l2, by rw [q _ _ (by decide) (by decide) (by decide)]; exact l3, by rw [q _ _ (by decide) (by decide) (by decide)]; exact l4, l5⟩, core_fswap l6 l4 l3 h6 h4, stat_fswap l7, l8, by rw [q _ _ (by decide) (by decide) (by decide)]; exact l9, fun j => by rw [q _ _ (by decide) (by decide) (by decide), q _ _ (by decide) (by decide) (by decide)]; exact l10 j, few_cg (fun F j a => q _ _ (by omega) (by omega) (by omega)) l11, ?_, l13⟩, hF, LR_up hR⟩
    rcases l12 with u | ⟨u1, u2, s0, o0, L0, u3, u4, u5, u6⟩
    · exact Or.inl (by rw [q _ _ (by decide) (by decide) (by decide)]; exact u)
    · exact Or.inr ⟨by rw [q _ _ (by decide) (by decide) (by decide)]; exact u1, u2, s0, o0, L0, u3, u4, was_fswap u5, u6⟩
  · rw [if_neg e] at k ⊢
    have e2 : f_swap s x y = su s 0 0 1 := by unfold f_swap; rw [if_neg e]
    rw [e2]
    exact ⟨_, k, LI_bmp (LI_thr h0) hn⟩
theorem kpt_o {s0 o0 o o' : mS} {P S L0 : Nat} (h : ∀ F j, 66 < F → o' F j = o F j) (k : kpt s0 o0 o P S L0) : kpt s0 o0 o' P S L0 := by
  obtain ⟨k1, k2, k3, k4⟩ := k
  refine ⟨fun q hq => ?_, fun x hx => ?_, by rw [h _ _ (by decide)]; exact k3, fun j hj => by rw [h _ _ (by decide)]; exact k4 j hj⟩
  · have := k1 q hq
    simp only [kd, h 70 q (by decide), h 71 q (by decide), h 72 q (by decide), h 73 q (by decide), h 74 q (by decide), h 75 q (by decide), h 76 q (by decide), h 77 q (by decide), h 78 q (by decide)] at this ⊢
    exact this
  · have := k2 x hx
    simp only [kt, h 80 x (by decide), h 81 x (by decide), h 82 x (by decide), h 83 x (by decide), h 84 x (by decide), h 85 x (by decide), h 86 x (by decide), h 87 x (by decide)] at this ⊢
    exact this
theorem B_undo (h : LI g b N xs n s s H) : ∃ r s', (∃ H1, Ev g 68 0 [some (.ref g.1), none] [] H (.inl (some (.int r)), H1) ∧ LI g b N xs (n + 1) s s' H1) ∧ MS g b N xs n s s' 137 [some (.ref (g.1 + 20))] (some (.int r)) := by
  have h0 := h
  obtain ⟨A, z, o, P, S, L, T, B, rfl, hx, hV, hF, hR⟩ := h
  have h6 := hV.1.1.2.2.2.2.2.1.1
  have h4 := hV.1.1.2.2.2.2.2.1.2
  refine ⟨if s 52 0 = 0 then 0 else 1, f_undo s, ?_, MS_of (fun h => md_undo (by omega))⟩
  by_cases e : s 52 0 = 0
  · have k := cd_undo0 (g := g) (A := A) (z := z) (s := s) (o := o) (a1 := none) hV.1.1 (by rw [hV.2.2.2.2.2.1]; exact e)
    rw [hx] at k
    rw [if_pos e, show f_undo s = su s 0 0 0 by unfold f_undo; rw [if_pos e]]
    exact ⟨_, k, LI_up (LI_thr h0)⟩
  · rw [if_neg e]
    obtain ⟨l1, ⟨l2, l3, l4, l5⟩, l6, l7, l8, l9, l10, l11, l12, l13⟩ := hV
    rcases l12 with u | ⟨u1, u2, s0, o0, L0, u3, u4, u5, u6⟩
    · exact absurd u e
    obtain ⟨z', o', c1, c2, c3, c4, c5, c6, k⟩ := cd_undo (g := g) (A := A) (z := z) (s := s) (o := o) (a1 := none) l1 l2 l3 l6.1 l8 (by rw [l9]; exact e) e u4 u5 u3.1
    rw [hx] at k
    obtain ⟨v1, v2, v3, v4, v5, v6, v7, v8⟩ := undo_v e u5
    refine ⟨_, k, A, z', o', P, S, L0, T - 1, B, rfl, hx, ⟨c1, ⟨by rw [v7 _ _ (by decide)]; exact l2, by rw [v7 _ _ (by decide)]; exact l3, by rw [v4, l4, nI_s1 u2], by omega⟩, core_undo e u5 h6 h4 u3 c4, stat_undo e u5 l7 (fun F j a => c5 F j (by omega)), c3, by rw [c6, v6], fun j => by rw [v7 36 _ (by decide), v7 7 _ (by decide)]; exact l10 j, few_undo h6 e u5 (fun p a1 a2 => (l11.1.1 p a1 a2).2.2.2) u6, Or.inl v6, ⟨fun i hi => ?_, fun i hi => ?_⟩⟩, LF_zle hF c2, LR_up (LR_zle hR c2)⟩
    · rw [c5 _ _ (by decide)]; exact l13.1 i hi
    · rw [c5 _ _ (by decide), c5 _ _ (by decide), c5 _ _ (by decide)]; exact l13.2 i hi
theorem B_hour (h : LI g b N xs n s s H) : ∃ r s', (∃ H1, Ev g 65 0 [some (.ref g.1), none] [] H (.inl (some (.int r)), H1) ∧ LI g b N xs (n + 1) s s' H1) ∧ MS g b N xs n s s' 138 [some (.ref (g.1 + 20)), none, none, none, none] (some (.int r)) := by
  have h0 := h
  obtain ⟨A, z, o, P, S, L, T, B, rfl, hx, hV, hF, hR⟩ := h
  have h6 := hV.1.1.2.2.2.2.2.1.1
  have h4 := hV.1.1.2.2.2.2.2.1.2
  obtain ⟨l1, ⟨l2, l3, l4, l5⟩, l6, l7, l8, l9, l10, l11, l12, l13⟩ := hV
  by_cases e : T = 9599
  · have e9 : s 1 0 = 9599 := by rw [l4, e]; decide +kernel
    have k := cd_hourL (g := g) (A := A) (z := z) (s := s) (o := o) (a1 := none) l1.1 e9
    rw [hx] at k
    have ec : cp A z (su s 0 0 0) o = cp A z s o := cp_x l1.1 (fun F j a _ _ _ _ => su_other _ _ a)
    rw [ec] at k
    exact ⟨_, su s 0 0 0, ⟨_, k, LI_up (LI_thr h0)⟩, MS_of (fun h => md_hourL (by omega) e9)⟩
  · have hT : T < 9599 := by omega
    obtain ⟨z', o', L', c1, c2, c3, c4, c5, c6, c7, c8, c9, k⟩ := cd_hour (g := g) (A := A) (z := z) (s := s) (o := o) (a1 := none) l1 l2 l3 l4 hT l6 l7 l8
    rw [hx] at k
    have m := fun h => md_hour (g := g) (m0 := g.1 + 20) (s := s) (h := h) (T := T) (by omega) l2 h6 l3 h4 l7.2.2.2.2.2.2.1 l7.2.2.2.2.2.2.2 l4 hT l6.1 l7.1.1 l7.1.2.1 (eOK_mk l6 l7 h6 l5) l7.2.2.2.2.2.1
    have wh := was_hour (B := B) (H := T + 1) h6 h4 l6.1 l7.1.2.1
    have fh := few_hour h6 h4 l6.1 l7.1.2.1 c4 l11
    have e52 : (f_hour P L S B (T + 1) s).2 52 0 = 1 := by
      unfold f_hour hrC
      simp only [su_get, and_self, if_true]
    generalize f_hour P L S B (T + 1) s = R at k m c4 c8 c9 wh fh e52
    refine ⟨R.1, R.2, ⟨_, k, A, z', o', P, S, L', T + 1, B, rfl, hx, ⟨c1, ⟨by rw [c8 _ _ (by decide)]; exact l2, by rw [c8 _ _ (by decide)]; exact l3, c9, by omega⟩, c4, stat_hour l7 c8 c7, c3, by rw [c6, e52], fun j => by rw [c8 36 _ (by decide), c8 7 _ (by decide)]; exact l10 j, fh, Or.inr ⟨e52, by omega, s, o, L, l6, c5, wh, l11⟩, ⟨fun i hi => ?_, fun i hi => ?_⟩⟩, LF_zle hF c2, LR_up (LR_zle hR c2)⟩, MS_of m⟩
    · rw [(c5.1 i hi).2.2.2.2.2]
      by_cases a : s 8 i = 2
      · obtain ⟨x, x1, x2⟩ := (l6.2.2.1.1 i hi).1 a
        exact Or.inr ⟨x, x1, x2⟩
      · exact Or.inl ((l6.2.2.1.1 i hi).2 a)
    · have q := c5.2.1 i hi
      rw [q.1.2.2.1, q.1.2.2.2, q.2.1]
      exact (l6.2.1 i hi).2.2
theorem B_back {x : Int32} (hn : n ≤ 1090) (h : LI g b N xs n s s H) : ∃ e r s', (e = 0 ∨ e = 1) ∧ s' 0 0 = e ∧ (∃ H1, Ev g 66 0 [some (.ref g.1), some (.int x), none, none, none, none] [] H (if e = 0 then .inl (some (.int r)) else .inr 1, H1) ∧ LI g b N xs (n + 1) s s' H1) ∧ MS g b N xs n s s' 149 [some (.ref (g.1 + 20)), some (.int x), none, none, none, none] (some (.int r)) := by
  have h0 := h
  obtain ⟨A, z, o, P, S, L, T, B, rfl, hx, hV, hF, hR⟩ := h
  have h6 := hV.1.1.2.2.2.2.2.1.1
  have h4 := hV.1.1.2.2.2.2.2.1.2
  obtain ⟨l1, ⟨l2, l3, l4, l5⟩, l6, l7, l8, l9, l10, l11, l12, l13⟩ := hV
  by_cases v : 0 ≤ x ∧ x < s 19 0
  · have v2 := v
    rw [l3] at v2
    obtain ⟨X, hX, rfl⟩ := of_in (n := S) (nI_toInt (by omega)) v2
    by_cases w : g_back s X
    · obtain ⟨z', o', L', c1, c2, c3, c4, c5, k⟩ := cd_back (g := g) (A := A) (z := z) (s := s) (o := o) (a2 := none) (a3 := none) (a4 := none) (a5 := none) l1 l3 l4 hX l6 l8 w
      rw [hx] at k
      have bo := (back_bOK h6 hX l6 l4 w).1
      have q : ∀ F j, F ≠ 0 → (F < 8 ∨ (13 < F ∧ F < 17) ∨ (18 < F ∧ F < 26) ∨ F = 27 ∨ 30 < F ∨ (9 < F ∧ F < 13)) → (f_back s X).1 F j = s F j := fun F j a a2 => fback_o a (by omega) (by omega) (by omega) (by omega) (by omega) (by omega) (by omega) (by omega) (by omega) j
      have e0 : (f_back s X).1 0 0 = 0 := by
        unfold f_back
        rw [bkL_o (by decide) (by decide) (by decide) (by decide) (by decide)]
        simp only [bkA, su_get, Nat.reduceEqDiff, false_and, if_false, and_self, if_true]
      refine ⟨0, 1, (f_back s X).1, Or.inl rfl, e0, ⟨_, by rw [if_pos rfl]; exact k, A, z', o', P, S, L', T, B, rfl, hx, ⟨c1, ⟨by rw [q _ _ (by decide) (by decide)]; exact l2, by rw [q _ _ (by decide) (by decide)]; exact l3, by rw [q _ _ (by decide) (by decide)]; exact l4, l5⟩, c5, stat_back l7 c4, c3, by rw [c4 _ _ (by decide) (by decide), q _ _ (by decide) (by decide)]; exact l9, fun j => by rw [q _ _ (by decide) (by decide), q _ _ (by decide) (by decide)]; exact l10 j, few_cg (fun F j a => q _ _ (by omega) (by omega)) l11, ?_, ⟨fun i hi => ?_, fun i hi => ?_⟩⟩, LF_zle hF c2, LR_up (LR_zle hR c2)⟩, ?_⟩
      · rcases l12 with u | ⟨u1, u2, s0, o0, L0, u3, u4, u5, u6⟩
        · exact Or.inl (by rw [q _ _ (by decide) (by decide)]; exact u)
        · exact Or.inr ⟨by rw [q _ _ (by decide) (by decide)]; exact u1, u2, s0, o0, L0, u3, kpt_o (fun F j a => c4 F j (by omega) (by omega)) u4, was_back u5, u6⟩
      · rw [c4 _ _ (by decide) (by decide)]; exact l13.1 i hi
      · rw [c4 _ _ (by decide) (by decide), c4 _ _ (by decide) (by decide), c4 _ _ (by decide) (by decide)]; exact l13.2 i hi
      · intro H2 hL
        have hL2 := hL
        have eh := LI_heap hL
        obtain ⟨A2, z2, o2, P2, S2, L2, T2, B2, eH, -, hV2, hF2, -⟩ := hL2
        have hq : g.1 + 63 ≤ H2.1 := by rw [eH]; exact hF2.2.2.2.2
        have k2 := md_back (g := g) (m0 := g.1 + 20) (s := s) (h := H2) (by omega) h6 l3 h4 hX w (by omega) (by rw [eH]; exact zrm hV2.1.1 (by decide)) bo
        rw [eh] at k2
        refine ⟨_, k2, LI_move (LI_row hL (by omega)), ?_⟩
        rw [mput_out]
        have ne : ¬ g.1 + 62 = H2.1 := by omega
        simp only [xe, tput, if_neg ne]
    · have k := cd_back1 (g := g) (A := A) (z := z) (s := s) (o := o) (a2 := none) (a3 := none) (a4 := none) (a5 := none) l1 l3 hX w
      rw [hx] at k
      exact ⟨0, 0, su s 0 0 0, Or.inl rfl, by simp only [su_get, and_self, if_true], ⟨_, by rw [if_pos rfl]; exact k, LI_up (LI_thr h0)⟩, MS_of (fun h => md_back1 (by omega) l3 h4 hX w)⟩
  · have k := cd_back0 (g := g) (A := A) (z := z) (s := s) (o := o) (a2 := none) (a3 := none) (a4 := none) (a5 := none) l1.1 v
    rw [hx] at k
    exact ⟨1, 0, su s 0 0 1, Or.inr rfl, by simp only [su_get, and_self, if_true], ⟨_, by rw [if_neg (by decide)]; exact k, LI_bmp (LI_thr h0) (by omega)⟩, MS_of (fun h => md_back0 (by omega) v)⟩
end LZ
