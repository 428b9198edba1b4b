/-! ===== the class is fair ===== -/
abbrev lik (s : mS) (a b : Nat) : Prop := s 3 a = s 3 b ∧ s 4 a = s 4 b ∧ s 5 a = s 5 b ∧ ofS s a 400 0 0 = ofS s b 400 0 0
/-- the greatest difference of the pairs so far -/
def mx (s : mS) (t : Nat → Nat) (P : Nat) (Q : Nat → Nat → Prop) (m : Int32) : Prop := ∃ M, m = nI M ∧ M < 2 ^ 30 ∧ (∀ a b, a < P → b < P → Q a b → lik s a b → t a - t b ≤ M) ∧ (M = 0 ∨ ∃ a b, a < P ∧ b < P ∧ lik s a b ∧ M = t a - t b)
theorem mx_mono {s : mS} {t : Nat → Nat} {P : Nat} {Q Q' : Nat → Nat → Prop} {m : Int32} (h : mx s t P Q m) (hq : ∀ a b, a < P → b < P → Q' a b → lik s a b → Q a b ∨ t a ≤ t b) : mx s t P Q' m := by
  obtain ⟨M, h1, h2, h3, h4⟩ := h
  refine ⟨M, h1, h2, fun a b ha hb q hl => ?_, h4⟩
  rcases hq a b ha hb q hl with w | w
  · exact h3 a b ha hb w hl
  · omega
theorem mx_eq {s : mS} {t : Nat → Nat} {P : Nat} {m m' : Int32} (h : mx s t P (fun _ _ => True) m) (h' : mx s t P (fun _ _ => True) m') : m = m' := by
  obtain ⟨M, h1, h2, h3, h4⟩ := h
  obtain ⟨M', h1', h2', h3', h4'⟩ := h'
  have a : M ≤ M' := by
    rcases h4 with w | ⟨a, b, ha, hb, hl, w⟩
    · omega
    · rw [w]; exact h3' a b ha hb trivial hl
  have b : M' ≤ M := by
    rcases h4' with w | ⟨a, b, ha, hb, hl, w⟩
    · omega
    · rw [w]; exact h3 a b ha hb trivial hl
  rw [h1, h1', Nat.le_antisymm a b]
theorem nI_dif {a b : Nat} (ha : a < 2 ^ 30) (hb : b < 2 ^ 30) : (nI a - nI b).toInt = (a : Int) - b := by
  rw [Int32.toInt_sub, nI_toInt (by omega), nI_toInt (by omega)]
  apply Int.bmod_eq_of_le <;> omega
theorem fa_step {s : mS} {t : Nat → Nat} {P a b : Nat} {Q : Nat → Nat → Prop} {m : Int32} (ht : ∀ p, p < P → s 11 p = nI (t p) ∧ t p < 2 ^ 30) (ha : a < P) (hb : b < P) (h : mx s t P Q m) : mx s t P (fun a' b' => Q a' b' ∨ (a' = a ∧ b' = b)) (if faC s a b m then s 11 a - s 11 b else m) := by
  obtain ⟨M, h1, h2, h3, h4⟩ := h
  obtain ⟨ea, la⟩ := ht a ha
  obtain ⟨eb, lb⟩ := ht b hb
  have dd := nI_dif la lb
  have le : (s 11 a - s 11 b ≤ m) ↔ t a - t b ≤ M := by
    rw [h1, ea, eb, Int32.le_iff_toInt_le, dd, nI_toInt (by omega)]
    omega
  by_cases c : faC s a b m
  · rw [if_pos c]
    obtain ⟨⟨c1, c2, c3, c4⟩, c5⟩ := c
    have nl : ¬ t a - t b ≤ M := fun q => c4 (le.mpr q)
    refine ⟨t a - t b, ?_, by omega, fun a' b' ha' hb' q hl => ?_, Or.inr ⟨a, b, ha, hb, ⟨c1, c2, c3, c5⟩, rfl⟩⟩
    · rw [ea, eb, nI_sub (by omega)]
    · rcases q with q | ⟨rfl, rfl⟩
      · have := h3 a' b' ha' hb' q hl; omega
      · exact Nat.le_refl _
  · rw [if_neg c]
    refine ⟨M, h1, h2, fun a' b' ha' hb' q hl => ?_, h4⟩
    rcases q with q | ⟨rfl, rfl⟩
    · exact h3 a' b' ha' hb' q hl
    · by_cases w : t a' - t b' ≤ M
      · exact w
      · exact absurd ⟨⟨hl.1, hl.2.1, hl.2.2.1, fun q => w (le.mp q)⟩, hl.2.2.2⟩ c
theorem faI_mx {s : mS} {t : Nat → Nat} {P a : Nat} (ht : ∀ p, p < P → s 11 p = nI (t p) ∧ t p < 2 ^ 30) (ha : a < P) : ∀ (f b : Nat) (m : Int32) (Q : Nat → Nat → Prop), b + f = P → mx s t P Q m → mx s t P (fun a' b' => Q a' b' ∨ (a' = a ∧ b ≤ b')) (faI s a f b m) := by
  intro f
  induction f with
  | zero => intro b m Q hb h; exact mx_mono h (fun a' b' _ hb' q _ => q.elim Or.inl (fun w => by omega))
  | succ f ih =>
    intro b m Q hb h
    rw [faI]
    refine mx_mono (ih (b + 1) _ _ (by omega) (fa_step ht ha (show b < P by omega) h)) (fun a' b' _ hb' q _ => Or.inl ?_)
    rcases q with q | ⟨q1, q2⟩
    · exact Or.inl (Or.inl q)
    · by_cases e : b' = b
      · exact Or.inl (Or.inr ⟨q1, e⟩)
      · exact Or.inr ⟨q1, by omega⟩
theorem faO_mx {s : mS} {t : Nat → Nat} {P : Nat} (ht : ∀ p, p < P → s 11 p = nI (t p) ∧ t p < 2 ^ 30) : ∀ (f a : Nat) (m : Int32), a + f = P → mx s t P (fun a' _ => a' < a) m → mx s t P (fun _ _ => True) (faO s P f a m) := by
  intro f
  induction f with
  | zero => intro a m ha h; exact mx_mono h (fun a' b' ha' _ _ _ => Or.inl (by omega))
  | succ f ih =>
    intro a m ha h
    rw [faO]
    refine ih (a + 1) _ (by omega) (mx_mono (faI_mx ht (show a < P by omega) P 0 m _ (by omega) h) (fun a' b' _ _ q _ => Or.inl ?_))
    by_cases e : a' = a
    · exact Or.inr ⟨e, Nat.zero_le _⟩
    · exact Or.inl (by omega)
/-- the class's way -/
def cfA (d : Int32) : Int32 := if 0 ≤ d then d else -d
def cfI (s o : mS) (i : Nat) : Nat → Nat → Int32 → Int32
  | 0, _, m => m
  | f + 1, j, m => cfI s o i f (j + 1) (if s 3 i = s 3 j ∧ s 4 i = s 4 j ∧ s 5 i = s 5 j ∧ o 61 i = o 61 j then (if m < cfA (s 11 i - s 11 j) then cfA (s 11 i - s 11 j) else m) else m)
def cfO (s o : mS) (P : Nat) : Nat → Nat → Int32 → Int32
  | 0, _, m => m
  | f + 1, i, m => cfO s o P f (i + 1) (cfI s o i (P - (i + 1)) (i + 1) m)
theorem cf_step {s o : mS} {t : Nat → Nat} {P a b : Nat} {Q : Nat → Nat → Prop} {m : Int32} (ht : ∀ p, p < P → s 11 p = nI (t p) ∧ t p < 2 ^ 30) (hdo : ∀ p, p < P → o 61 p = ofS s p 400 0 0) (ha : a < P) (hb : b < P) (h : mx s t P Q m) : mx s t P (fun a' b' => Q a' b' ∨ (a' = a ∧ b' = b) ∨ (a' = b ∧ b' = a)) (if s 3 a = s 3 b ∧ s 4 a = s 4 b ∧ s 5 a = s 5 b ∧ o 61 a = o 61 b then (if m < cfA (s 11 a - s 11 b) then cfA (s 11 a - s 11 b) else m) else m) := by
  obtain ⟨M, h1, h2, h3, h4⟩ := h
  obtain ⟨ea, la⟩ := ht a ha
  obtain ⟨eb, lb⟩ := ht b hb
  have dd := nI_dif la lb
  rw [hdo a ha, hdo b hb]
  by_cases c : lik s a b
  · rw [if_pos c]
    have cs : lik s b a := ⟨c.1.symm, c.2.1.symm, c.2.2.1.symm, c.2.2.2.symm⟩
    have ab : ∃ D, cfA (s 11 a - s 11 b) = nI D ∧ D < 2 ^ 30 ∧ t a - t b ≤ D ∧ t b - t a ≤ D ∧ (D = t a - t b ∨ D = t b - t a) := by
      unfold cfA
      by_cases w : t b ≤ t a
      · have : 0 ≤ s 11 a - s 11 b := by
          rw [ea, eb, Int32.le_iff_toInt_le, dd]
          have : (0 : Int32).toInt = 0 := by decide
          omega
        rw [if_pos this, ea, eb, nI_sub w]
        exact ⟨t a - t b, rfl, by omega, by omega, by omega, Or.inl rfl⟩
      · have : ¬ 0 ≤ s 11 a - s 11 b := by
          rw [ea, eb, Int32.le_iff_toInt_le, dd]
          have : (0 : Int32).toInt = 0 := by decide
          omega
        rw [if_neg this, ea, eb, Int32.neg_sub, nI_sub (by omega)]
        exact ⟨t b - t a, rfl, by omega, by omega, by omega, Or.inr rfl⟩
    obtain ⟨D, d1, d2, d3, d4, d5⟩ := ab
    rw [d1, h1]
    by_cases w : M < D
    · rw [if_pos (nI_lt w (by omega))]
      refine ⟨D, rfl, d2, fun a' b' ha' hb' q hl => ?_, Or.inr ?_⟩
      · rcases q with q | ⟨rfl, rfl⟩ | ⟨rfl, rfl⟩
        · have := h3 a' b' ha' hb' q hl; omega
        · exact d3
        · exact d4
      · rcases d5 with e | e
        · exact ⟨a, b, ha, hb, c, e⟩
        · exact ⟨b, a, hb, ha, cs, e⟩
    · rw [if_neg (nI_nlt (by omega) (by omega))]
      refine ⟨M, rfl, h2, fun a' b' ha' hb' q hl => ?_, h4⟩
      rcases q with q | ⟨rfl, rfl⟩ | ⟨rfl, rfl⟩
      · exact h3 a' b' ha' hb' q hl
      · omega
      · omega
  · rw [if_neg c]
    refine ⟨M, h1, h2, fun a' b' ha' hb' q hl => ?_, h4⟩
    rcases q with q | ⟨rfl, rfl⟩ | ⟨rfl, rfl⟩
    · exact h3 a' b' ha' hb' q hl
    · exact absurd hl c
    · exact absurd ⟨hl.1.symm, hl.2.1.symm, hl.2.2.1.symm, hl.2.2.2.symm⟩ c
theorem cfI_mx {s o : mS} {t : Nat → Nat} {P a : Nat} (ht : ∀ p, p < P → s 11 p = nI (t p) ∧ t p < 2 ^ 30) (hdo : ∀ p, p < P → o 61 p = ofS s p 400 0 0) (ha : a < P) : ∀ (f b : Nat) (m : Int32) (Q : Nat → Nat → Prop), b + f = P → mx s t P Q m → mx s t P (fun a' b' => Q a' b' ∨ (a' = a ∧ b ≤ b') ∨ (b' = a ∧ b ≤ a')) (cfI s o a f b m) := by
  intro f
  induction f with
  | zero =>
    intro b m Q hb h
    refine mx_mono h (fun a' b' ha' hb' q _ => ?_)
    rcases q with q | q | q
    · exact Or.inl q
    · omega
    · omega
  | succ f ih =>
    intro b m Q hb h
    rw [cfI]
    refine mx_mono (ih (b + 1) _ _ (by omega) (cf_step ht hdo ha (show b < P by omega) h)) (fun a' b' _ hb' q _ => Or.inl ?_)
    rcases q with q | ⟨q1, q2⟩ | ⟨q1, q2⟩
    · exact Or.inl (Or.inl q)
    · by_cases e : b' = b
      · exact Or.inl (Or.inr (Or.inl ⟨q1, e⟩))
      · exact Or.inr (Or.inl ⟨q1, by omega⟩)
    · by_cases e : a' = b
      · exact Or.inl (Or.inr (Or.inr ⟨e, q1⟩))
      · exact Or.inr (Or.inr ⟨q1, by omega⟩)
theorem cfO_mx {s o : mS} {t : Nat → Nat} {P : Nat} (ht : ∀ p, p < P → s 11 p = nI (t p) ∧ t p < 2 ^ 30) (hdo : ∀ p, p < P → o 61 p = ofS s p 400 0 0) : ∀ (f a : Nat) (m : Int32), a + f = P → mx s t P (fun a' b' => a' < a ∨ b' < a) m → mx s t P (fun _ _ => True) (cfO s o P f a m) := by
  intro f
  induction f with
  | zero => intro a m ha h; exact mx_mono h (fun a' b' ha' _ _ _ => Or.inl (by omega))
  | succ f ih =>
    intro a m ha h
    rw [cfO]
    refine ih (a + 1) _ (by omega) (mx_mono (cfI_mx ht hdo (show a < P by omega) (P - (a + 1)) (a + 1) m _ (by omega) h) (fun a' b' _ _ q _ => ?_))
    by_cases e1 : a' < a ∨ b' < a
    · exact Or.inl (Or.inl e1)
    · by_cases e2 : a' = b'
      · subst e2; exact Or.inr (Nat.le_refl _)
      · refine Or.inl (Or.inr ?_)
        omega
theorem fair_eq {s o : mS} {t : Nat → Nat} {P : Nat} (ht : ∀ p, p < P → s 11 p = nI (t p) ∧ t p < 2 ^ 30) (hdo : ∀ p, p < P → o 61 p = ofS s p 400 0 0) : cfO s o P P 0 0 = faO s P P 0 0 := by
  refine mx_eq (cfO_mx ht hdo P 0 0 (by omega) ⟨0, nI_0.symm, by decide, fun a b _ _ q _ => by omega, Or.inl rfl⟩) (faO_mx ht P 0 0 (by omega) ⟨0, nI_0.symm, by decide, fun a b _ _ q _ => by omega, Or.inl rfl⟩)
section FA
variable {g : Nat × Nat × Nat} {A : Nat → Nat → Nat} {z : zT} {s o : mS} {P S : Nat}
theorem lp_cfI {i : Nat} {out : xR} (hz : zo g A z o P S) (hP : s 2 0 = nI P) (hi : i < P) : ∀ (f j : Nat) (m : Int32) (a4 : Option Value), j + f = P → (∀ a4 : Option Value, Ev g 76 111 [some (.ref (A 0 0)), some (.int (cfI s o i f j m)), some (.int (nI i)), some (.int (nI P)), a4] [] (cp A z s o) out) → Ev g 76 19 [some (.ref (A 0 0)), some (.int m), some (.int (nI i)), some (.int (nI j)), a4] [] (cp A z s o) out := by
  have hY := hz.1
  have h6 := hY.2.2.2.2.2.1.1
  have k1 := ps_size (g := g) (A := A) (s := s) hz hP
  have ki := ps_get (g := g) (A := A) (s := s) hz hP hi
  intro f
  induction f with
  | zero =>
    intro j m a4 hj k
    have h2 : nI P ≤ nI j := nI_le (by omega) (by omega)
    have e : j = P := by omega
    subst e
    rw [e_X9_fair_19 rfl]
    simp only [e_X9_fair_20, e_X9_fair_21, e_X9_fair_27, e_X9_fair_30, e_X9_fair_31, e_X9_fair_34, e_X9_fair_38n, e_X9_fair_38, e_X9_fair_41, e_X9_fair_42, e_X9_fair_45, e_X9_fair_49n, e_X9_fair_49, e_X9_fair_55, e_X9_fair_58, e_X9_fair_59, e_X9_fair_62, e_X9_fair_66n, e_X9_fair_66, e_X9_fair_69, e_X9_fair_72, e_X9_fair_75, e_X9_fair_76, e_X9_fair_79, e_X9_fair_83n, e_X9_fair_83, e_X9_fair_86, e_X9_fair_89, e_X9_fair_92, e_X9_fair_93, e_X9_fair_95, e_X9_fair_96, e_X9_fair_104, e_X9_fair_105, e_X9_fair_108, cO_0 hY, cg_0_0 hY, cO_30 hY, cg_30_4 hY, cO_31 hY, cg_31_5 hY, cO_32 hY, cg_32_5 hY, rP_n, rS_n, xrd_rP, xrd_rS, xfit_rP, xfit_rS, xcat_rP, xcat_rS, nem, su_get, z1e0, z2e0, z3e0, z4e0, z5e0, z0e1, zme0, Nat.reduceEqDiff, not_true_eq_false, and_self, false_or, or_false, or_self,  bI_eq0, bI_eq1, i10, i20, i30, i00, ne_eq, Decidable.not_not, true_and, and_true, false_and, and_false, xrd_ref, xrd_null, xrd_rf, xid_int, xcat_int, xcat_ref, xcat_null, xcat_long, xcat_rf, xfit_int, xfit_0, xfit_1, xfit_ref, xfit_null, xfit_rf, not_false_eq_true, ↓reduceIte, z01_0, z01_1, bI_01, true_or, or_true, c_X9_fair_24 (cO_1 hY) k1, h2]
    exact k a4
  | succ f ih =>
    intro j m a4 hj k
    have h2 : ¬ nI P ≤ nI j := nI_ge (by omega) (by omega)
    have hjP : j < P := by omega
    have kj := ps_get (g := g) (A := A) (s := s) hz hP hjP
    have kl := cd_isLike (g := g) (A := A) (z := z) (s := s) (o := o) hY hi hjP
    rw [cfI] at k
    rw [e_X9_fair_19 rfl]
    by_cases c : s 3 i = s 3 j ∧ s 4 i = s 4 j ∧ s 5 i = s 5 j ∧ o 61 i = o 61 j
    · rw [if_pos c] at k
      have c1 : bI (s 3 i = s 3 j ∧ s 4 i = s 4 j ∧ s 5 i = s 5 j ∧ o 61 i = o 61 j) = 1 := by simp only [bI, c, and_self, if_true]
      rw [c1] at kl
      have i1 := ih (j + 1) _ (some (.int (s 11 i - s 11 j))) (by omega) k
      simp only [e_X9_fair_20, e_X9_fair_21, e_X9_fair_27, e_X9_fair_30, e_X9_fair_31, e_X9_fair_34, e_X9_fair_38n, e_X9_fair_38, e_X9_fair_41, e_X9_fair_42, e_X9_fair_45, e_X9_fair_49n, e_X9_fair_49, e_X9_fair_55, e_X9_fair_58, e_X9_fair_59, e_X9_fair_62, e_X9_fair_66n, e_X9_fair_66, e_X9_fair_69, e_X9_fair_72, e_X9_fair_75, e_X9_fair_76, e_X9_fair_79, e_X9_fair_83n, e_X9_fair_83, e_X9_fair_86, e_X9_fair_89, e_X9_fair_92, e_X9_fair_93, e_X9_fair_95, e_X9_fair_96, e_X9_fair_104, e_X9_fair_105, e_X9_fair_108, cO_0 hY, cg_0_0 hY, cO_30 hY, cg_30_4 hY, cO_31 hY, cg_31_5 hY, cO_32 hY, cg_32_5 hY, rP_n, rS_n, xrd_rP, xrd_rS, xfit_rP, xfit_rS, xcat_rP, xcat_rS, nem, su_get, z1e0, z2e0, z3e0, z4e0, z5e0, z0e1, zme0, Nat.reduceEqDiff, not_true_eq_false, and_self, false_or, or_false, or_self,  bI_eq0, bI_eq1, i10, i20, i30, i00, ne_eq, Decidable.not_not, true_and, and_true, false_and, and_false, xrd_ref, xrd_null, xrd_rf, xid_int, xcat_int, xcat_ref, xcat_null, xcat_long, xcat_rf, xfit_int, xfit_0, xfit_1, xfit_ref, xfit_null, xfit_rf, not_false_eq_true, ↓reduceIte, z01_0, z01_1, bI_01, true_or, or_true, c_X9_fair_24 (cO_1 hY) k1, c_X9_fair_35 (cO_1 hY) ki, c_X9_fair_46 _ (cO_1 hY) kj, c_X9_fair_52 _ (cO_30 hY hi) kl, c_X9_fair_63 (cO_1 hY) ki, c_X9_fair_80 (cO_1 hY) kj, c_X9_fair_98 jd_abs, c_X9_fair_101 jd_max, h2, hi, hjP, cO_30 hY, nI_1]
      exact i1
    · rw [if_neg c] at k
      have c1 : bI (s 3 i = s 3 j ∧ s 4 i = s 4 j ∧ s 5 i = s 5 j ∧ o 61 i = o 61 j) = 0 := by simp only [bI, c, if_false]
      rw [c1] at kl
      have i1 := ih (j + 1) _ a4 (by omega) k
      simp only [e_X9_fair_20, e_X9_fair_21, e_X9_fair_27, e_X9_fair_30, e_X9_fair_31, e_X9_fair_34, e_X9_fair_38n, e_X9_fair_38, e_X9_fair_41, e_X9_fair_42, e_X9_fair_45, e_X9_fair_49n, e_X9_fair_49, e_X9_fair_55, e_X9_fair_58, e_X9_fair_59, e_X9_fair_62, e_X9_fair_66n, e_X9_fair_66, e_X9_fair_69, e_X9_fair_72, e_X9_fair_75, e_X9_fair_76, e_X9_fair_79, e_X9_fair_83n, e_X9_fair_83, e_X9_fair_86, e_X9_fair_89, e_X9_fair_92, e_X9_fair_93, e_X9_fair_95, e_X9_fair_96, e_X9_fair_104, e_X9_fair_105, e_X9_fair_108, cO_0 hY, cg_0_0 hY, cO_30 hY, cg_30_4 hY, cO_31 hY, cg_31_5 hY, cO_32 hY, cg_32_5 hY, rP_n, rS_n, xrd_rP, xrd_rS, xfit_rP, xfit_rS, xcat_rP, xcat_rS, nem, su_get, z1e0, z2e0, z3e0, z4e0, z5e0, z0e1, zme0, Nat.reduceEqDiff, not_true_eq_false, and_self, false_or, or_false, or_self,  bI_eq0, bI_eq1, i10, i20, i30, i00, ne_eq, Decidable.not_not, true_and, and_true, false_and, and_false, xrd_ref, xrd_null, xrd_rf, xid_int, xcat_int, xcat_ref, xcat_null, xcat_long, xcat_rf, xfit_int, xfit_0, xfit_1, xfit_ref, xfit_null, xfit_rf, not_false_eq_true, ↓reduceIte, z01_0, z01_1, bI_01, true_or, or_true, c_X9_fair_24 (cO_1 hY) k1, c_X9_fair_35 (cO_1 hY) ki, c_X9_fair_46 _ (cO_1 hY) kj, c_X9_fair_52 _ (cO_30 hY hi) kl, h2, hi, hjP, cO_30 hY, nI_1]
      exact i1
theorem lp_cfO (hz : zo g A z o P S) (hP : s 2 0 = nI P) : ∀ (f i : Nat) (m : Int32) (a3 a4 : Option Value), i + f = P → Ev g 76 4 [some (.ref (A 0 0)), some (.int m), some (.int (nI i)), a3, a4] [] (cp A z s o) (.inl (some (.int (cfO s o P f i m))), cp A z s o) := by
  have hY := hz.1
  have h6 := hY.2.2.2.2.2.1.1
  have k1 := ps_size (g := g) (A := A) (s := s) hz hP
  intro f
  induction f with
  | zero =>
    intro i m a3 a4 hi
    have h2 : nI P ≤ nI i := nI_le (by omega) (by omega)
    rw [e_X9_fair_4 rfl]
    simp only [e_X9_fair_5, e_X9_fair_6, e_X9_fair_12, e_X9_fair_15, e_X9_fair_16, e_X9_fair_17, e_X9_fair_18, e_X9_fair_111, e_X9_fair_114, e_X9_fair_117, e_X9_fair_118, cO_0 hY, cg_0_0 hY, cO_30 hY, cg_30_4 hY, cO_31 hY, cg_31_5 hY, cO_32 hY, cg_32_5 hY, rP_n, rS_n, xrd_rP, xrd_rS, xfit_rP, xfit_rS, xcat_rP, xcat_rS, nem, su_get, z1e0, z2e0, z3e0, z4e0, z5e0, z0e1, zme0, Nat.reduceEqDiff, not_true_eq_false, and_self, false_or, or_false, or_self,  bI_eq0, bI_eq1, i10, i20, i30, i00, ne_eq, Decidable.not_not, true_and, and_true, false_and, and_false, xrd_ref, xrd_null, xrd_rf, xid_int, xcat_int, xcat_ref, xcat_null, xcat_long, xcat_rf, xfit_int, xfit_0, xfit_1, xfit_ref, xfit_null, xfit_rf, not_false_eq_true, ↓reduceIte, z01_0, z01_1, bI_01, true_or, or_true, c_X9_fair_9 (cO_1 hY) k1, h2, cfO]
  | succ f ih =>
    intro i m a3 a4 hi
    have h2 : ¬ nI P ≤ nI i := nI_ge (by omega) (by omega)
    rw [e_X9_fair_4 rfl, cfO]
    simp only [e_X9_fair_5, e_X9_fair_6, e_X9_fair_12, e_X9_fair_15, e_X9_fair_16, e_X9_fair_17, e_X9_fair_18, cO_0 hY, cg_0_0 hY, cO_30 hY, cg_30_4 hY, cO_31 hY, cg_31_5 hY, cO_32 hY, cg_32_5 hY, rP_n, rS_n, xrd_rP, xrd_rS, xfit_rP, xfit_rS, xcat_rP, xcat_rS, nem, su_get, z1e0, z2e0, z3e0, z4e0, z5e0, z0e1, zme0, Nat.reduceEqDiff, not_true_eq_false, and_self, false_or, or_false, or_self,  bI_eq0, bI_eq1, i10, i20, i30, i00, ne_eq, Decidable.not_not, true_and, and_true, false_and, and_false, xrd_ref, xrd_null, xrd_rf, xid_int, xcat_int, xcat_ref, xcat_null, xcat_long, xcat_rf, xfit_int, xfit_0, xfit_1, xfit_ref, xfit_null, xfit_rf, not_false_eq_true, ↓reduceIte, z01_0, z01_1, bI_01, true_or, or_true, c_X9_fair_9 (cO_1 hY) k1, h2, nI_1]
    refine lp_cfI hz hP (by omega) (P - (i + 1)) (i + 1) m a4 (by omega) (fun a4 => ?_)
    simp only [e_X9_fair_111, e_X9_fair_114, e_X9_fair_117, e_X9_fair_118, nem, su_get, z1e0, z2e0, z3e0, z4e0, z5e0, z0e1, zme0, Nat.reduceEqDiff, not_true_eq_false, and_self, false_or, or_false, or_self,  bI_eq0, bI_eq1, i10, i20, i30, i00, ne_eq, Decidable.not_not, true_and, and_true, false_and, and_false, xrd_ref, xrd_null, xrd_rf, xid_int, xcat_int, xcat_ref, xcat_null, xcat_long, xcat_rf, xfit_int, xfit_0, xfit_1, xfit_ref, xfit_null, xfit_rf, not_false_eq_true, ↓reduceIte, z01_0, z01_1, bI_01, true_or, or_true, nI_1]
    exact ih (i + 1) _ _ _ (by omega)
theorem cd_fair {t : Nat → Nat} {a1 a2 a3 a4 : Option Value} (hz : zo g A z o P S) (hP : s 2 0 = nI P) (ht : ∀ p, p < P → s 11 p = nI (t p) ∧ t p < 2 ^ 30) (hdo : ∀ p, p < P → o 61 p = ofS s p 400 0 0) : Ev g 76 0 [some (.ref (A 0 0)), a1, a2, a3, a4] [] (cp A z s o) (.inl (some (.int (faO s P P 0 0))), cp A z s o) := by
  have := lp_cfO (g := g) (A := A) (s := s) hz hP P 0 0 a3 a4 (by omega)
  rw [nI_0, fair_eq ht hdo] at this
  simp only [e_X9_fair_0, e_X9_fair_1, e_X9_fair_2, e_X9_fair_3, nem, su_get, z1e0, z2e0, z3e0, z4e0, z5e0, z0e1, zme0, Nat.reduceEqDiff, not_true_eq_false, and_self, false_or, or_false, or_self,  bI_eq0, bI_eq1, i10, i20, i30, i00, ne_eq, Decidable.not_not, true_and, and_true, false_and, and_false, xrd_ref, xrd_null, xrd_rf, xid_int, xcat_int, xcat_ref, xcat_null, xcat_long, xcat_rf, xfit_int, xfit_0, xfit_1, xfit_ref, xfit_null, xfit_rf, not_false_eq_true, ↓reduceIte, z01_0, z01_1, bI_01, true_or, or_true]
  exact this
end FA
