/-! ===== the reference's hour ===== -/
theorem gbS_o (P n : Nat) (s : mS) {k : Nat} (hk : k ≠ 8) (j : Nat) : gbS P n s k j = s k j := by
  induction n generalizing s with
  | zero => rfl
  | succ n ih =>
    rw [gbS, ih]
    split
    · rfl
    · exact su_other _ _ hk
theorem soN {s : mS} {t : Int32} {B : Nat} (hs : ∀ k, k < B → ∃ q, q ≤ 20 ∧ s 39 k = nI q) : ∀ f k n, k + f = B → ∃ m, m ≤ n + 20 * f ∧ soS s t f k (nI n) = nI m := by
  intro f
  induction f with
  | zero => intro k n _; exact ⟨n, by omega, rfl⟩
  | succ f ih =>
    intro k n hk
    obtain ⟨q, hq, e⟩ := hs k (by omega)
    rw [soS]
    split
    · rw [e, nI_add]
      obtain ⟨m, a, b⟩ := ih (k + 1) (n + q) (by omega)
      exact ⟨m, by omega, b⟩
    · have : nI n + 0 = nI n := by rw [← nI_0, nI_add]; rfl
      rw [this]
      obtain ⟨m, a, b⟩ := ih (k + 1) n (by omega)
      exact ⟨m, by omega, b⟩
theorem eOK_o {s s2 : mS} {S : Nat} (h : eOK s S) (h1 : ∀ j, s2 21 j = s 21 j) (h2 : ∀ k j, 26 ≤ k → k ≤ 30 → s2 k j = s k j) : eOK s2 S := by
  intro x hx
  obtain ⟨a, b⟩ := h x hx
  rw [h1, h2 26 x (by omega) (by omega), h2 27 x (by omega) (by omega), h2 28 x (by omega) (by omega), h2 29 x (by omega) (by omega), h2 30 x (by omega) (by omega)]
  exact ⟨a, b⟩
theorem inL_pm {s : mS} {P L : Nat} {v : Int32} (hP : P ≤ 60) (h : lOK s P L) (hv : v = -1 ∨ inL s L v) : pm v := by
  rcases hv with q | q
  · exact Or.inl q
  · obtain ⟨p, hp, e⟩ := inL_p h q
    exact Or.inr ⟨p, by omega, e⟩
theorem snE_e {s : mS} {P L x H S : Nat} (hP : P ≤ 60) (hl : lOK s P L) (he : ∀ y, y < S → (∃ n, n ≤ 400 ∧ s 21 y = nI n) ∧ (s 26 y = 1 → (∃ W, W < 9600 ∧ s 27 y = nI W) ∧ pm (s 28 y) ∧ pm (s 29 y) ∧ (y ≠ x → pm (s 30 y)))) : eOK (snE x H s) S := by
  unfold snE snF
  rw [nL_eq hl hP]
  have hw : pm (if s 25 x = 0 then -1 else alS s x H L 0) := by
    split
    · exact Or.inl rfl
    · exact inL_pm hP hl (al_in s x H L L 0 (by omega))
  generalize (if s 25 x = 0 then -1 else alS s x H L 0) = w at hw ⊢
  have e : ∀ y, su s 30 x w 30 y = if y = x then w else s 30 y := fun y => by simp [su]
  have h1 : eOK (su s 30 x w) S := by
    intro y hy
    obtain ⟨a, b⟩ := he y hy
    rw [su_other _ _ (by decide), su_other _ _ (by decide), su_other _ _ (by decide), su_other _ _ (by decide), su_other _ _ (by decide), e]
    refine ⟨a, fun q => ?_⟩
    obtain ⟨c1, c2, c3, c4⟩ := b q
    refine ⟨c1, c2, c3, ?_⟩
    split
    · exact hw
    · next hne => exact c4 hne
  split
  · exact h1
  · exact eOK_o h1 (fun j => bd_o _ _ _ _ (by decide) (by decide) (by decide) (by decide) (by decide) (by decide) _) (fun k j q r => bd_o _ _ _ _ (by omega) (by omega) (by omega) (by omega) (by omega) (by omega) _)
theorem sends_e {s : mS} {P L A x H S : Nat} (hP : P ≤ 60) (hl : lOK s P L) (hA : s 47 0 = nI A) (hw : ¬ s 24 x < 0 → ∃ q, q < P ∧ s 24 x = nI q) (hx : x < S) (hH : H < 9600) (he : eOK s S) : eOK (f_sends s x H).2 S := by
  unfold f_sends
  split
  · show eOK (su s 31 x (s 31 x + 1)) S
    exact eOK_o he (fun j => su_other _ _ (by decide)) (fun k j q r => su_other _ _ (by omega))
  · have e48 : ∀ k j, k ≠ 48 → (su s 48 0 0) k j = s k j := fun k j q => su_other _ _ q
    have l1 : lOK (su s 48 0 0) P L := lOK_o hl (fun j => e48 _ _ (by decide)) (e48 _ _ (by decide))
    have hw1 : ¬ (su s 48 0 0) 24 x < 0 → ∃ q, q < P ∧ (su s 48 0 0) 24 x = nI q := by rw [e48 _ _ (by decide)]; exact hw
    have hA1 : (su s 48 0 0) 47 0 = nI A := by rw [e48 _ _ (by decide)]; exact hA
    obtain ⟨q1, q2, ⟨A', c1, c2, c3⟩, q4, q5⟩ := seek_ok (x := x) (H := H) (lead := -1) hP l1 hA1 hw1 (Or.inr rfl)
    rw [nL_eq hl hP]
    generalize f_seek (su s 48 0 0) x H (-1) L = r at q1 q2 c1 q4 q5 ⊢
    obtain ⟨first, s2⟩ := r
    simp only at q1 q2 c1 q4 q5 ⊢
    have e2 : eOK s2 S := eOK_o he (fun j => by rw [q2 _ _ (by omega) (by omega), e48 _ _ (by omega)]) (fun k j q r => by rw [q2 _ _ (by omega) (by omega), e48 _ _ (by omega)])
    have main : ∀ (other : Int32) (s3 : mS), eOK s3 S → lOK s3 P L → (first = -1 ∨ inL s3 L first) → (other = -1 ∨ (other ≠ first ∧ inL s3 L other)) → eOK (snC x H first (other, s3)).2 S := by
      intro other s3 k3 l3 hf ho
      unfold snC
      simp only
      split
      · simp only
        split
        · exact eOK_o k3 (fun j => su_other _ _ (by decide)) (fun k j q r => su_other _ _ (by omega))
        · exact eOK_o k3 (fun j => su_other _ _ (by decide)) (fun k j q r => su_other _ _ (by omega))
      · next hne =>
        have p1 : pm first := inL_pm hP l3 hf
        have p2 : pm other := inL_pm hP l3 (ho.imp id (fun q => q.2))
        have hf := hf.resolve_left (fun q => hne (Or.inl q))
        have e17 : ∀ j, (su (su (su (su s3 26 x 1) 27 x (nI H)) 28 x first) 29 x other) 17 j = s3 17 j := fun j => by
          rw [su_other _ _ (by decide), su_other _ _ (by decide), su_other _ _ (by decide), su_other _ _ (by decide)]
        have e18 : (su (su (su (su s3 26 x 1) 27 x (nI H)) 28 x first) 29 x other) 18 0 = s3 18 0 := by
          rw [su_other _ _ (by decide), su_other _ _ (by decide), su_other _ _ (by decide), su_other _ _ (by decide)]
        have k4 : ∀ y, y < S → (∃ n, n ≤ 400 ∧ (su (su (su (su s3 26 x 1) 27 x (nI H)) 28 x first) 29 x other) 21 y = nI n) ∧ ((su (su (su (su s3 26 x 1) 27 x (nI H)) 28 x first) 29 x other) 26 y = 1 → (∃ W, W < 9600 ∧ (su (su (su (su s3 26 x 1) 27 x (nI H)) 28 x first) 29 x other) 27 y = nI W) ∧ pm ((su (su (su (su s3 26 x 1) 27 x (nI H)) 28 x first) 29 x other) 28 y) ∧ pm ((su (su (su (su s3 26 x 1) 27 x (nI H)) 28 x first) 29 x other) 29 y) ∧ (y ≠ x → pm ((su (su (su (su s3 26 x 1) 27 x (nI H)) 28 x first) 29 x other) 30 y))) := by
          intro y hy
          obtain ⟨a, b⟩ := k3 y hy
          by_cases ey : y = x
          · subst ey
            refine ⟨by simpa [su] using a, fun _ => ⟨⟨H, hH, by simp [su]⟩, by simpa [su] using p1, by simpa [su] using p2, fun q => absurd rfl q⟩⟩
          · simp only [su, ey, and_false, if_false]
            refine ⟨a, fun q => ?_⟩
            obtain ⟨c1, c2, c3, c4⟩ := b q
            exact ⟨c1, c2, c3, fun _ => c4⟩
        have l4 := lOK_o l3 e17 e18
        have i4 := inL_o hf e17
        have l5 := bd_l (x := x) (t := nI H) hP l4 i4
        have bo : ∀ (s : mS) (v t : Int32) (k j : Nat), k = 21 ∨ (26 ≤ k ∧ k ≤ 30) → bd s v x t k j = s k j := fun s v t k j q => bd_o _ _ _ _ (by omega) (by omega) (by omega) (by omega) (by omega) (by omega) _
        have k5 : ∀ (sa : mS), (∀ k j, k = 21 ∨ (26 ≤ k ∧ k ≤ 30) → sa k j = (su (su (su (su s3 26 x 1) 27 x (nI H)) 28 x first) 29 x other) k j) → ∀ y, y < S → (∃ n, n ≤ 400 ∧ sa 21 y = nI n) ∧ (sa 26 y = 1 → (∃ W, W < 9600 ∧ sa 27 y = nI W) ∧ pm (sa 28 y) ∧ pm (sa 29 y) ∧ (y ≠ x → pm (sa 30 y))) := by
          intro sa ha y hy
          rw [ha 21 y (by omega), ha 26 y (by omega), ha 27 y (by omega), ha 28 y (by omega), ha 29 y (by omega), ha 30 y (by omega)]
          exact k4 y hy
        simp only
        unfold snD
        by_cases a : other = -1
        · rw [if_pos a]
          exact snE_e hP l5.1 (k5 _ (fun k j q => bo _ _ _ _ _ q))
        · rw [if_neg a]
          have ho := ho.resolve_left a
          have i5 := l5.2 other ho.1 (inL_o ho.2 e17)
          exact snE_e hP (bd_l hP l5.1 i5).1 (k5 _ (fun k j q => by rw [bo _ _ _ _ _ q, bo _ _ _ _ _ q]))
    unfold snB
    simp only
    have hf : first = -1 ∨ inL s2 L first := q5.imp id (fun q => q.2)
    split
    · next hc =>
      have hneg : s2 24 x < 0 := by rw [hc.2]; decide
      obtain ⟨r1, r2, ⟨A2, d1, d2, d3⟩, r4, r5⟩ := seek_ok (x := x) (H := H) (lead := first) hP q1 c1 (fun q => absurd hneg q) (Or.inl hneg)
      rw [nL_eq q1 hP]
      generalize f_seek s2 x H first L = r2' at r1 r2 d1 r4 r5 ⊢
      obtain ⟨other, s3⟩ := r2'
      simp only at r1 r2 d1 r4 r5
      exact main _ _ (eOK_o e2 (fun j => r2 _ _ (by omega) (by omega)) (fun k j q r => r2 _ _ (by omega) (by omega))) r1 (Or.inr (r4 _ (hf.resolve_left hc.1))) r5
    · exact main _ _ e2 q1 hf (Or.inl rfl)
theorem sdS_e {P S M H : Nat} (hP : P ≤ 60) (hS : S ≤ 400) (hH : H < 9600) : ∀ (f k A : Nat) (n : Int32) (s : mS), k + f = M → (∃ L, lOK s P L) → wOK s P S → (∀ j, j < M → ∃ y, y < S ∧ s 50 j = nI y) → s 47 0 = nI A → eOK s S → eOK (sdS H f k n s).2 S := by
  intro f
  induction f with
  | zero => intro k A n s _ _ _ _ _ he; exact he
  | succ f ih =>
    intro k A n s hk hl hw ho hA he
    obtain ⟨y, hy, ey⟩ := ho k (by omega)
    have hcy : (nI y).toNatClampNeg = y := nI_clamp (by omega)
    obtain ⟨L, hl⟩ := hl
    obtain ⟨c1, ⟨A', c2, c3, c4⟩, c5⟩ := sends_ok (x := y) (H := H) hP hl hA (hw y hy)
    rw [sdS, ey, hcy]
    exact ih (k + 1) A' _ (f_sends s y H).2 (by omega) c1 (fun x hx => by rw [c5 _ _ (by omega)]; exact hw x hx) (fun j hj => by rw [c5 _ _ (by omega)]; exact ho j hj) c2 (sends_e hP hl hA (hw y hy) hy hH he)
section MD
variable {g : Nat × Nat × Nat} {m0 : Nat} {s : mS} {h : xH}
def hrA (P L : Nat) (s : mS) : mS := bgS L P 0 (su (f_keep (su s 0 0 0)) 47 0 0)
def hrB (B : Nat) (s : mS) : mS := su s 49 0 (soS s (s 1 0) B 0 0)
def hrQ (S H : Nat) (s : mS) : Int32 × mS := sdS H (quS (nI H) S 0 0 s).1 0 0 (quS (nI H) S 0 0 s).2
def hrN (B : Nat) (s : mS) : Nat := (if s 1 0 = 0 then 0 else soS s (s 1 0 - 1) B 0 0).toNatClampNeg
def hrC (P S B H : Nat) (s : mS) : mS := su (lsS H P 0 (rdS H P 0 (enS H S 0 (su (gbS P (hrN B s) s) 1 0 (nI H))))) 52 0 1
def f_hour (P L S B H : Nat) (s : mS) : Int32 × mS := ((hrQ S H (hrB B (hrA P L s))).1, hrC P S B H (hrQ S H (hrB B (hrA P L s))).2)
theorem hrA_o (P L : Nat) (s : mS) {k : Nat} (h1 : k < 53) (h2 : k ≠ 16) (h3 : k ≠ 47) (h4 : k ≠ 0) (j : Nat) : hrA P L s k j = s k j := by
  unfold hrA
  rw [bgS_o _ _ _ _ h2, su_other _ _ h3, f_keep_o _ (Or.inl h1), su_other _ _ h4]
theorem md_hourL (hm : g.1 ≤ m0) (hs : s 1 0 = 9599) : Ev g 138 0 [some (.ref m0), none, none, none, none] [] (mput m0 s h) (.inl (some (.int (-1))), mput m0 (su s 0 0 0) h) := by
  simp only [e_X10_hour_0, e_X10_hour_1, e_X10_hour_2, e_X10_hour_5, e_X10_hour_6, e_X10_hour_9, e_X10_hour_12, e_X10_hour_15, e_X10_hour_16, mO, mp_0, mg_1, nem, su_get, z1e0, z2e0, z3e0, z4e0, z5e0, z0e1, zme0, Nat.reduceEqDiff, not_true_eq_false, and_self, false_or, or_false, or_self,  bI_eq0, bI_eq1, i10, i20, i30, i00, ne_eq, Decidable.not_not, true_and, and_true, false_and, and_false, xrd_ref, xrd_null, xrd_rf, xid_int, xcat_int, xcat_ref, xcat_null, xcat_long, xcat_rf, xfit_int, xfit_0, xfit_1, xfit_ref, xfit_null, xfit_rf, not_false_eq_true, ↓reduceIte, z01_0, z01_1, bI_01, true_or, or_true, hm, hs]
theorem md_hour {P L S B T : Nat} (hm : g.1 ≤ m0) (hP : s 2 0 = nI P) (hP60 : P ≤ 60) (hS : s 19 0 = nI S) (hS400 : S ≤ 400) (hB : s 37 0 = nI B) (hB12 : B ≤ 12) (hT : s 1 0 = nI T) (hT2 : T < 9599) (hl : lOK s P L) (hk : kOK s P) (hw : wOK s P S) (he : eOK s S) (hb : ∀ k, k < B → ∃ q, q ≤ 20 ∧ s 39 k = nI q) : Ev g 138 0 [some (.ref m0), none, none, none, none] [] (mput m0 s h) (.inl (some (.int (f_hour P L S B (T + 1) s).1)), mput m0 (f_hour P L S B (T + 1) s).2 h) := by
  have hLP := hl.2.1
  have n1 : ¬ nI T = 9599 := by
    intro q
    have h3 := nI_toInt (show T < 2 ^ 31 by omega)
    rw [q] at h3
    have h4 : (9599 : Int32).toInt = 9599 := by decide
    omega
  have kk := fun s => md_keep (g := g) (m0 := m0) (s := s) (h := h) hm
  -- to the queue
  have a1 : ∀ {out : xR}, Ev g 138 0 [some (.ref m0), none, none, none, none] [] (mput m0 s h) out = Ev g 138 28 [some (.ref m0), some (.int 0), none, none, none] [] (mput m0 (su (f_keep (su s 0 0 0)) 47 0 0) h) out := by
    intro out
    simp only [e_X10_hour_0, e_X10_hour_1, e_X10_hour_2, e_X10_hour_5, e_X10_hour_6, e_X10_hour_9, e_X10_hour_12, e_X10_hour_15, e_X10_hour_16, e_X10_hour_17, e_X10_hour_21, e_X10_hour_22, e_X10_hour_23, e_X10_hour_26, e_X10_hour_27, c_X10_hour_18 _ (kk _), mO, mp_0, mg_1, mp_47, nem, su_get, z1e0, z2e0, z3e0, z4e0, z5e0, z0e1, zme0, Nat.reduceEqDiff, not_true_eq_false, and_self, false_or, or_false, or_self,  bI_eq0, bI_eq1, i10, i20, i30, i00, ne_eq, Decidable.not_not, true_and, and_true, false_and, and_false, xrd_ref, xrd_null, xrd_rf, xid_int, xcat_int, xcat_ref, xcat_null, xcat_long, xcat_rf, xfit_int, xfit_0, xfit_1, xfit_ref, xfit_null, xfit_rf, not_false_eq_true, ↓reduceIte, z01_0, z01_1, bI_01, true_or, or_true, hm, hT, n1]
  have o1 : ∀ k j, k < 53 → k ≠ 47 → k ≠ 0 → (su (f_keep (su s 0 0 0)) 47 0 0) k j = s k j := fun k j q r t => by
    rw [su_other _ _ r, f_keep_o _ (Or.inl q), su_other _ _ t]
  have a2 := fun out => lp_begun (g := g) (m0 := m0) (h := h) (a2 := none) (a3 := none) (a4 := none) (out := out) hm hP60 hLP P 0 (su (f_keep (su s 0 0 0)) 47 0 0) (by omega) (by rw [o1 _ _ (by decide) (by decide) (by decide)]; exact hP) (by rw [o1 _ _ (by decide) (by decide) (by decide)]; exact hl.1)
  rw [nI_0] at a2
  rw [a1, a2]
  have oA : ∀ k j, k < 53 → k ≠ 16 → k ≠ 47 → k ≠ 0 → hrA P L s k j = s k j := fun k j q r t u => hrA_o P L s q r t u j
  have A47 : hrA P L s 47 0 = nI 0 := by
    unfold hrA
    rw [bgS_o _ _ _ _ (by decide), nI_0]
    simp [su]
  unfold f_hour
  change Ev g 138 53 _ _ (mput m0 (hrA P L s) h) _
  generalize hrA P L s = sA at oA A47 ⊢
  have a3 : ∀ {out : xR}, Ev g 138 53 [some (.ref m0), some (.int (nI P)), none, none, none] [] (mput m0 sA h) out = Ev g 138 74 [some (.ref m0), some (.int (nI (T + 1))), some (.int 0), none, none] [] (mput m0 (hrB B sA) h) out := by
    intro out
    have e1 : sA 1 0 = nI T := by rw [oA _ _ (by decide) (by decide) (by decide) (by decide)]; exact hT
    have e2 : sA 37 0 = nI B := by rw [oA _ _ (by decide) (by decide) (by decide) (by decide)]; exact hB
    unfold hrB
    simp only [e_X10_hour_53, e_X10_hour_54, e_X10_hour_57, e_X10_hour_58, e_X10_hour_59, e_X10_hour_60, e_X10_hour_61, e_X10_hour_62, e_X10_hour_63, e_X10_hour_69, e_X10_hour_72, e_X10_hour_73, c_X10_hour_66 _ _ (md_seatsOut e2 hB12), mO, mg_1, mp_49, nem, su_get, z1e0, z2e0, z3e0, z4e0, z5e0, z0e1, zme0, Nat.reduceEqDiff, not_true_eq_false, and_self, false_or, or_false, or_self,  bI_eq0, bI_eq1, i10, i20, i30, i00, ne_eq, Decidable.not_not, true_and, and_true, false_and, and_false, xrd_ref, xrd_null, xrd_rf, xid_int, xcat_int, xcat_ref, xcat_null, xcat_long, xcat_rf, xfit_int, xfit_0, xfit_1, xfit_ref, xfit_null, xfit_rf, not_false_eq_true, ↓reduceIte, z01_0, z01_1, bI_01, true_or, or_true, hm, e1, nI_1]
  rw [a3]
  have oB : ∀ k j, k < 53 → k ≠ 16 → k ≠ 47 → k ≠ 0 → k ≠ 49 → hrB B sA k j = s k j := fun k j q r t u v => by
    unfold hrB
    rw [su_other _ _ v, oA _ _ q r t u]
  have B47 : hrB B sA 47 0 = nI 0 := by
    unfold hrB
    rw [su_other _ _ (by decide)]
    exact A47
  generalize hrB B sA = sB at oB B47 ⊢
  have bS : sB 19 0 = nI S := by rw [oB _ _ (by decide) (by decide) (by decide) (by decide) (by decide)]; exact hS
  have a4 := md_queue (g := g) (m0 := m0) (h := h) (t := nI (T + 1)) hm hS400 bS
  obtain ⟨u1, u2, u3⟩ := quS_ok (nI (T + 1)) S S 0 0 sB (by omega) (by omega) (fun j hj => by omega)
  unfold hrQ
  simp only [e_X10_hour_74, e_X10_hour_75, e_X10_hour_79, e_X10_hour_80, e_X10_hour_81, c_X10_hour_76 _ a4, mO, nem, su_get, z1e0, z2e0, z3e0, z4e0, z5e0, z0e1, zme0, Nat.reduceEqDiff, not_true_eq_false, and_self, false_or, or_false, or_self,  bI_eq0, bI_eq1, i10, i20, i30, i00, ne_eq, Decidable.not_not, true_and, and_true, false_and, and_false, xrd_ref, xrd_null, xrd_rf, xid_int, xcat_int, xcat_ref, xcat_null, xcat_long, xcat_rf, xfit_int, xfit_0, xfit_1, xfit_ref, xfit_null, xfit_rf, not_false_eq_true, ↓reduceIte, z01_0, z01_1, bI_01, true_or, or_true]
  generalize quS (nI (T + 1)) S 0 0 sB = qq at u1 u2 u3 ⊢
  obtain ⟨M, sQ⟩ := qq
  simp only at u1 u2 u3 ⊢
  have oQ : ∀ k j, k < 53 → k ≠ 16 → k ≠ 47 → k ≠ 0 → k ≠ 49 → k ≠ 50 → sQ k j = s k j := fun k j q r t u v w => by
    rw [u3 _ _ w, oB _ _ q r t u v]
  have lQ : ∃ L, lOK sQ P L := ⟨L, lOK_o hl (fun j => oQ _ _ (by decide) (by decide) (by decide) (by decide) (by decide) (by decide)) (oQ _ _ (by decide) (by decide) (by decide) (by decide) (by decide) (by decide))⟩
  have kQ : kOK sQ P := fun p hp => by rw [oQ _ _ (by decide) (by decide) (by decide) (by decide) (by decide) (by decide)]; exact hk p hp
  have wQ : wOK sQ P S := fun x hx => by rw [oQ _ _ (by decide) (by decide) (by decide) (by decide) (by decide) (by decide)]; exact hw x hx
  have AQ : sQ 47 0 = nI 0 := by rw [u3 _ _ (by decide)]; exact B47
  have eQ : eOK sQ S := eOK_o he (fun j => oQ _ _ (by decide) (by decide) (by decide) (by decide) (by decide) (by decide)) (fun k j q r => oQ _ _ (by omega) (by omega) (by omega) (by omega) (by omega) (by omega))
  have a5 := fun out => lp_sends (g := g) (m0 := m0) (h := h) (out := out) hm hP60 hS400 (show T + 1 < 9600 by omega) (show M ≤ 400 by omega) M 0 0 0 sQ (by omega) lQ kQ wQ u2 AQ (by omega)
  rw [nI_0] at a5
  rw [a5]
  obtain ⟨lR, _, oR⟩ := sdS_ok (H := T + 1) hP60 M 0 0 0 sQ (by omega) lQ wQ u2 AQ hS400
  have eR := sdS_e (H := T + 1) hP60 hS400 (by omega) M 0 0 0 sQ (by omega) lQ wQ u2 AQ eQ
  generalize sdS (T + 1) M 0 0 sQ = rr at lR oR eR ⊢
  obtain ⟨n, sR⟩ := rr
  simp only at lR oR eR ⊢
  have r1 : sR 1 0 = nI T := by rw [oR _ _ (by omega), oQ _ _ (by decide) (by decide) (by decide) (by decide) (by decide) (by decide)]; exact hT
  have r2 : sR 2 0 = nI P := by rw [oR _ _ (by omega), oQ _ _ (by decide) (by decide) (by decide) (by decide) (by decide) (by decide)]; exact hP
  have r19 : sR 19 0 = nI S := by rw [oR _ _ (by omega), oQ _ _ (by decide) (by decide) (by decide) (by decide) (by decide) (by decide)]; exact hS
  have r37 : sR 37 0 = nI B := by rw [oR _ _ (by omega), oQ _ _ (by decide) (by decide) (by decide) (by decide) (by decide) (by decide)]; exact hB
  have rb : ∀ k, k < B → ∃ q, q ≤ 20 ∧ sR 39 k = nI q := fun k hk => by rw [oR _ _ (by omega), oQ _ _ (by decide) (by decide) (by decide) (by decide) (by decide) (by decide)]; exact hb k hk
  unfold hrC
  have hN : ∃ N, N < 2 ^ 31 ∧ (if sR 1 0 = 0 then 0 else soS sR (sR 1 0 - 1) B 0 0) = nI N := by
    split
    · exact ⟨0, by omega, nI_0.symm⟩
    · obtain ⟨m, a, b⟩ := soN (t := sR 1 0 - 1) rb B 0 0 (by omega)
      rw [nI_0] at b
      exact ⟨m, by omega, b⟩
  obtain ⟨N, hN, eN⟩ := hN
  have eN2 : hrN B sR = N := by unfold hrN; rw [eN, nI_clamp hN]
  rw [eN2]
  have a6 := md_seatsBack (g := g) (m0 := m0) (h := h) (t := sR 1 0) r37 hB12
  rw [eN] at a6
  have a7 := md_goBack (g := g) (m0 := m0) (h := h) hm hP60 hN r2
  have a8 : ∀ {out : xR}, Ev g 138 118 [some (.ref m0), some (.int (nI (T + 1))), some (.int n), some (.int (nI M)), some (.int (nI M))] [] (mput m0 sR h) out = Ev g 138 138 [some (.ref m0), some (.int (nI (T + 1))), some (.int n), some (.int (nI M)), some (.int 0)] [] (mput m0 (su (gbS P N sR) 1 0 (nI (T + 1))) h) out := by
    intro out
    simp only [e_X10_hour_118, e_X10_hour_119, e_X10_hour_120, e_X10_hour_121, e_X10_hour_130, e_X10_hour_131, e_X10_hour_132, e_X10_hour_135, e_X10_hour_136, c_X10_hour_124 _ _ a6, c_X10_hour_127 _ a7, mO, mg_1, mp_1, nem, su_get, z1e0, z2e0, z3e0, z4e0, z5e0, z0e1, zme0, Nat.reduceEqDiff, not_true_eq_false, and_self, false_or, or_false, or_self,  bI_eq0, bI_eq1, i10, i20, i30, i00, ne_eq, Decidable.not_not, true_and, and_true, false_and, and_false, xrd_ref, xrd_null, xrd_rf, xid_int, xcat_int, xcat_ref, xcat_null, xcat_long, xcat_rf, xfit_int, xfit_0, xfit_1, xfit_ref, xfit_null, xfit_rf, not_false_eq_true, ↓reduceIte, z01_0, z01_1, bI_01, true_or, or_true, hm]
  rw [a8]
  have oG : ∀ k j, k ≠ 8 → k ≠ 1 → (su (gbS P N sR) 1 0 (nI (T + 1))) k j = sR k j := fun k j q r => by rw [su_other _ _ r, gbS_o _ _ _ q]
  generalize su (gbS P N sR) 1 0 (nI (T + 1)) = sG at oG ⊢
  have a9 := fun out => lp_ends (g := g) (m0 := m0) (h := h) (n := n) (a3 := some (.int (nI M))) (out := out) hm hS400 (show T + 1 < 9600 by omega) S 0 sG (by omega) (by rw [oG _ _ (by decide) (by decide)]; exact r19) (eOK_o eR (fun j => oG _ _ (by decide) (by decide)) (fun k j q r => oG _ _ (by omega) (by omega)))
  rw [nI_0] at a9
  rw [a9]
  have oE : ∀ k j, k < 8 ∨ 15 < k → k ≠ 26 → k ≠ 8 → k ≠ 1 → (enS (T + 1) S 0 sG) k j = sR k j := fun k j q r t u => by rw [enS_o _ _ _ _ q r, oG _ _ t u]
  generalize enS (T + 1) S 0 sG = sE at oE ⊢
  have b0 := fun out => lp_roads (g := g) (m0 := m0) (h := h) (n := n) (H := T + 1) (a3 := some (.int (nI M))) (out := out) hm hP60 P 0 sE (by omega) (by rw [oE _ _ (by omega) (by decide) (by decide) (by decide)]; exact r2)
  rw [nI_0] at b0
  simp only [e_X10_hour_188, e_X10_hour_189, nem, su_get, z1e0, z2e0, z3e0, z4e0, z5e0, z0e1, zme0, Nat.reduceEqDiff, not_true_eq_false, and_self, false_or, or_false, or_self,  bI_eq0, bI_eq1, i10, i20, i30, i00, ne_eq, Decidable.not_not, true_and, and_true, false_and, and_false, xrd_ref, xrd_null, xrd_rf, xid_int, xcat_int, xcat_ref, xcat_null, xcat_long, xcat_rf, xfit_int, xfit_0, xfit_1, xfit_ref, xfit_null, xfit_rf, not_false_eq_true, ↓reduceIte, z01_0, z01_1, bI_01, true_or, or_true, b0]
  have oD : ∀ k j, k < 8 ∨ 15 < k → k ≠ 26 → k ≠ 8 → k ≠ 1 → (rdS (T + 1) P 0 sE) k j = sR k j := fun k j q r t u => by rw [rdS_o _ _ _ _ t, oE _ _ q r t u]
  generalize rdS (T + 1) P 0 sE = sD at oD ⊢
  obtain ⟨LR, lR⟩ := lR
  have b1 := fun out => lp_rested (g := g) (m0 := m0) (h := h) (n := n) (H := T + 1) (a3 := some (.int (nI M))) (out := out) hm hP60 P 0 sD (by omega) (by rw [oD _ _ (by omega) (by decide) (by decide) (by decide)]; exact r2) ⟨LR, lOK_o lR (fun j => oD _ _ (by omega) (by decide) (by decide) (by decide)) (oD _ _ (by omega) (by decide) (by decide) (by decide))⟩
  rw [nI_0] at b1
  simp only [e_X10_hour_236, e_X10_hour_237, e_X10_hour_306, e_X10_hour_307, e_X10_hour_308, e_X10_hour_311, e_X10_hour_312, mO, mp_52, nem, su_get, z1e0, z2e0, z3e0, z4e0, z5e0, z0e1, zme0, Nat.reduceEqDiff, not_true_eq_false, and_self, false_or, or_false, or_self,  bI_eq0, bI_eq1, i10, i20, i30, i00, ne_eq, Decidable.not_not, true_and, and_true, false_and, and_false, xrd_ref, xrd_null, xrd_rf, xid_int, xcat_int, xcat_ref, xcat_null, xcat_long, xcat_rf, xfit_int, xfit_0, xfit_1, xfit_ref, xfit_null, xfit_rf, not_false_eq_true, ↓reduceIte, z01_0, z01_1, bI_01, true_or, or_true, hm, b1]
end MD
