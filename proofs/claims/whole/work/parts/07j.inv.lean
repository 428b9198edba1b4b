/-! ===== what a sending keeps of ships and pilots ===== -/
theorem mv_inL' {s : mS} {L K p : Nat} {v : Int32} (hK : K < L) (hp : s 17 K = nI p) (h : inL (mvS s p L K) L v) : inL s L v := by
  obtain ⟨j, hj, e⟩ := h
  rw [mvS_17 _ _ _ _ hj] at e
  by_cases a : j = L - 1
  · rw [if_pos a] at e; exact ⟨K, hK, hp.trans e⟩
  · rw [if_neg a] at e
    by_cases b : K ≤ j
    · rw [if_pos b] at e; exact ⟨j + 1, by omega, e⟩
    · rw [if_neg b] at e; exact ⟨j, hj, e⟩
theorem fa_inL' {s : mS} {L K x p : Nat} {w v : Int32} (hw : w = 4 → K < L ∧ s 17 K = nI p) (hv : inL (f_asks s x p w L K) L v) : inL s L v := by
  unfold f_asks at hv
  split at hv
  · next e =>
    exact inL_o (mv_inL' (hw e).1 ((mlg_17 _ _ _ _ _).trans (hw e).2) hv) (fun j => (mlg_17 _ _ _ _ _).symm)
  · exact inL_o hv (fun j => (mlg_17 _ _ _ _ _).symm)
theorem sk_in' {x H P L : Nat} {free lead : Int32} (hP : P ≤ 60) : ∀ (f k : Nat) (s : mS), k + f = L → lOK s P L → (∀ j, j < L → inL s L (s 51 j)) → ∀ v, inL (skS x H free lead L f k s).2 L v → inL s L v := by
  intro f
  induction f with
  | zero => intro k s hk hl hli v hv; exact hv
  | succ f ih =>
    intro k s hk hl hli v hv
    have hLP := hl.2.1
    obtain ⟨K, hKL, hK, hKp⟩ := inL_pl (hli k (by omega))
    obtain ⟨p, hp, ep⟩ := hl.2.2.1 K hKL
    rw [hKp] at ep
    have hcp : (nI p).toNatClampNeg = p := nI_clamp (by omega)
    have hcK : (nI K).toNatClampNeg = K := nI_clamp (by omega)
    rw [ep] at hK hKp
    rw [skS] at hv
    by_cases e : nI p = lead
    · rw [if_pos (by rw [ep]; exact e)] at hv
      exact ih (k + 1) s (by omega) hl hli v hv
    · rw [if_neg (by rw [ep]; exact e)] at hv
      simp only [ep, hcp, hK, hcK] at hv
      have hw : y_asks s x p H free L = 4 → K < L ∧ s 17 K = nI p := fun _ => ⟨hKL, hKp⟩
      by_cases d : y_asks s x p H free L = 0
      · rw [if_pos d] at hv
        exact fa_inL' hw hv
      · rw [if_neg d] at hv
        refine fa_inL' hw (ih (k + 1) _ (by omega) (fa_lOK hl hp hw) (fun j hj => ?_) v hv)
        rw [fa_o _ _ _ _ _ _ (by omega)]
        exact fa_inL hw (hli j hj)
theorem seek_in' {s : mS} {x H P L : Nat} {lead : Int32} (hP : P ≤ 60) (hl : lOK s P L) (hw : ¬ s 24 x < 0 → ∃ q, q < P ∧ s 24 x = nI q) : ∀ v, inL (f_seek s x H lead L).2 L v → inL s L v := by
  intro v hv
  have hLP := hl.2.1
  unfold f_seek at hv
  generalize frS s x lead = free at hv
  by_cases a : s 24 x < 0
  · rw [if_pos a] at hv
    have := sk_in' (x := x) (H := H) (free := free) (lead := lead) hP L 0 (lnS L 0 s) (by omega) (lOK_o hl (fun j => lnS_o _ _ _ (by decide) _) (lnS_o _ _ _ (by decide) _)) (fun j hj => by
      rw [lnS_51, if_pos (by omega)]
      exact ⟨j, hj, lnS_o _ _ _ (by decide) _⟩) v hv
    exact inL_o this (fun j => (lnS_o _ _ _ (by decide) _).symm)
  · rw [if_neg a] at hv
    obtain ⟨q, hq, eq⟩ := hw a
    have hcq : (nI q).toNatClampNeg = q := nI_clamp (by omega)
    unfold skA at hv
    simp only [eq, hcq] at hv
    refine fa_inL' (fun e => ?_) hv
    have h5 : ¬ pl s (nI q) L 0 = -1 := by
      intro h6
      unfold y_asks at e
      rw [if_pos ⟨a, h6⟩] at e
      exact absurd e (by decide)
    obtain ⟨K, k1, k2, k3⟩ := inL_pl ((inL_iff hl hP).mpr h5)
    rw [k2, nI_clamp (by omega)]
    exact ⟨k1, k3⟩
theorem bd_8 {s : mS} {P L p : Nat} {x : Nat} {t : Int32} (hP : P ≤ 60) (hp : p < P) (hl : lOK s P L) (j : Nat) : bd s (nI p) x t 8 j = (if j = p then 2 else s 8 j) ∧ bd s (nI p) x t 13 j = (if j = p then nI x else s 13 j) := by
  have cp_ : (nI p).toNatClampNeg = p := nI_clamp (by omega)
  unfold bd f_boards
  rw [cp_]
  constructor
  · rw [su_other _ _ (by decide), su_get]
    by_cases e : j = p
    · simp [e]
    · simp only [e, and_false, if_false]
      rw [su_other _ _ (by decide), tkS_o _ (by decide), b0S_o _ _ _ _ (by decide) (by decide)]
  · rw [su_get]
    by_cases e : j = p
    · simp [e]
    · simp only [e, and_false, if_false]
      rw [su_other _ _ (by decide), su_other _ _ (by decide), tkS_o _ (by decide), b0S_o _ _ _ _ (by decide) (by decide)]
theorem bd_in' {s : mS} {P L : Nat} {v t w : Int32} {x : Nat} (hP : P ≤ 60) (h : lOK s P L) (hv : inL s L v) (hw : inL (bd s v x t) (L - 1) w) : inL s L w ∧ w ≠ v := by
  have hLP := h.2.1
  obtain ⟨K, hK, e1, e2⟩ := inL_pl hv
  have hcK : (nI K).toNatClampNeg = K := nI_clamp (by omega)
  obtain ⟨j, hj, e⟩ := hw
  unfold bd f_boards at e
  rw [nL_eq h hP, e1, hcK, su_other _ _ (by decide), su_other _ _ (by decide), su_other _ _ (by decide), tkS_17] at e
  have b : ∀ j, b0S s v.toNatClampNeg x t 17 j = s 17 j := fun j => b0S_o _ _ _ _ (by decide) (by decide) _
  rw [b, b] at e
  by_cases c : K ≤ j ∧ j < K + (L - 1 - K)
  · rw [if_pos c] at e
    refine ⟨⟨j + 1, by omega, e⟩, fun q => ?_⟩
    have := h.2.2.2 (j + 1) K (by omega) hK (by rw [e, e2, q])
    omega
  · rw [if_neg c] at e
    refine ⟨⟨j, by omega, e⟩, fun q => ?_⟩
    have := h.2.2.2 j K (by omega) hK (by rw [e, e2, q])
    omega
/-- one aboard of x, or none -/
def rl (s : mS) (P x : Nat) (v : Int32) : Prop := v = -1 ∨ ∃ p, p < P ∧ v = nI p ∧ s 8 p = 2 ∧ s 13 p = nI x
def dst (s : mS) (x : Nat) : Prop := (s 28 x = -1 ∨ s 28 x ≠ s 29 x) ∧ (s 28 x = -1 ∨ s 28 x ≠ s 30 x) ∧ (s 29 x = -1 ∨ s 29 x ≠ s 30 x)
/-- ship x is in order -/
def shI (s : mS) (P x : Nat) : Prop := (s 26 x = 1 → (∃ W, W < 9600 ∧ s 27 x = nI W) ∧ rl s P x (s 28 x) ∧ rl s P x (s 29 x) ∧ rl s P x (s 30 x) ∧ dst s x) ∧ (s 26 x = 0 → s 28 x = -1 ∧ s 29 x = -1 ∧ s 30 x = -1) ∧ (pmP P (s 28 x) ∧ pmP P (s 29 x) ∧ pmP P (s 30 x))
/-- the pilots are in order -/
def plI (s : mS) (P S L : Nat) : Prop := (∀ p, p < P → (s 8 p = 2 → ∃ x, x < S ∧ s 13 p = nI x) ∧ (¬ s 8 p = 2 → s 13 p = -1)) ∧ (∀ p, p < P → inL s L (nI p) → ¬ s 8 p = 2)
/-- those who went at H, and those in the list, have their places marked -/
def bgI (s : mS) (P S L H : Nat) : Prop := (∀ x, x < S → s 26 x = 1 → s 27 x = nI H → ∀ p, p < P → (s 28 x = nI p ∨ s 29 x = nI p ∨ s 30 x = nI p) → ¬ s 16 p = -1) ∧ (∀ p, p < P → inL s L (nI p) → ¬ s 16 p = -1)
def siv (s : mS) (P S L H : Nat) : Prop := lOK s P L ∧ (∀ x, x < S → shI s P x) ∧ plI s P S L ∧ bgI s P S L H
theorem shI_o {s s2 : mS} {P x : Nat} (h : shI s P x) (h1 : ∀ F, 26 ≤ F → F ≤ 30 → s2 F x = s F x) (h2 : ∀ p, p < P → s 8 p = 2 → s 13 p = nI x → s2 8 p = 2 ∧ s2 13 p = nI x) : shI s2 P x := by
  unfold shI dst at *
  rw [h1 26 (by decide) (by decide), h1 27 (by decide) (by decide), h1 28 (by decide) (by decide), h1 29 (by decide) (by decide), h1 30 (by decide) (by decide)]
  have r : ∀ v, rl s P x v → rl s2 P x v := by
    intro v hv
    rcases hv with q | ⟨p, p1, p2, p3, p4⟩
    · exact Or.inl q
    · exact Or.inr ⟨p, p1, p2, (h2 p p1 p3 p4).1, (h2 p p1 p3 p4).2⟩
  exact ⟨fun q => ⟨(h.1 q).1, r _ (h.1 q).2.1, r _ (h.1 q).2.2.1, r _ (h.1 q).2.2.2.1, (h.1 q).2.2.2.2⟩, h.2.1, h.2.2⟩
/-- a state that differs in none of the fields that count, the list's order aside -/
theorem siv_o {s s2 : mS} {P S L H : Nat} (h : siv s P S L H) (hl : lOK s2 P L) (hin : ∀ v, inL s2 L v → inL s L v) (h8 : ∀ j, s2 8 j = s 8 j) (h13 : ∀ j, s2 13 j = s 13 j) (h16 : ∀ j, s2 16 j = s 16 j) (hF : ∀ F j, 26 ≤ F → F ≤ 30 → s2 F j = s F j) : siv s2 P S L H := by
  obtain ⟨a, b, c, d⟩ := h
  refine ⟨hl, fun x hx => shI_o (b x hx) (fun F h1 h2 => hF F x h1 h2) (fun p _ q1 q2 => ⟨by rw [h8]; exact q1, by rw [h13]; exact q2⟩), ⟨fun p hp => ?_, fun p hp hi => ?_⟩, ⟨fun x hx q1 q2 p hp q3 => ?_, fun p hp hi => ?_⟩⟩
  · rw [h8, h13]; exact c.1 p hp
  · rw [h8]; exact c.2 p hp (hin _ hi)
  · rw [h16]
    rw [hF _ _ (by decide) (by decide)] at q1 q2
    rw [hF _ _ (by decide) (by decide), hF _ _ (by decide) (by decide), hF _ _ (by decide) (by decide)] at q3
    exact d.1 x hx q1 q2 p hp q3
  · rw [h16]; exact d.2 p hp (hin _ hi)
