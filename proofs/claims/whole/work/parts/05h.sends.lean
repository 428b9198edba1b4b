/-! ===== the reference sends ===== -/
def nL (s : mS) : Nat := (s 18 0).toNatClampNeg
theorem nL_eq {s : mS} {P L : Nat} (h : lOK s P L) (hP : P ≤ 60) : nL s = L := by
  unfold nL
  rw [h.1, nI_clamp (by have := h.2.1; omega)]
theorem inL_p {s : mS} {P L : Nat} {v : Int32} (h : lOK s P L) (hv : inL s L v) : ∃ p, p < P ∧ v = nI p := by
  obtain ⟨j, hj, e⟩ := hv
  obtain ⟨p, hp, q⟩ := h.2.2.1 j hj
  exact ⟨p, hp, e.symm.trans q⟩
/-- what a search keeps -/
def skK (s : mS) (P L A n : Nat) (lead : Int32) (q : Int32 × mS) : Prop := lOK q.2 P L ∧ (∀ k j, (k < 17 ∨ (18 < k ∧ k < 44) ∨ 48 < k) → k ≠ 51 → q.2 k j = s k j) ∧ (∃ A', q.2 47 0 = nI A' ∧ A ≤ A' ∧ A' ≤ A + n) ∧ (∀ v, inL s L v → inL q.2 L v) ∧ (q.1 = -1 ∨ (q.1 ≠ lead ∧ inL q.2 L q.1))
theorem sk_ok {x H P L : Nat} {free lead : Int32} (hP : P ≤ 60) : ∀ (f k A : Nat) (s : mS), k + f = L → lOK s P L → s 47 0 = nI A → (∀ j, j < L → inL s L (s 51 j)) → skK s P L A f lead (skS x H free lead L f k s) := by
  intro f
  induction f with
  | zero =>
    intro k A s hk hl hA hli
    exact ⟨hl, fun _ _ _ _ => rfl, ⟨A, hA, by omega, by omega⟩, fun _ q => q, Or.inl rfl⟩
  | succ f ih =>
    intro k A s hk hl hA hli
    have hLP := hl.2.1
    obtain ⟨K, hKL, hK, hKp⟩ := inL_pl (hli k (by omega))
    obtain ⟨p, hp, ep⟩ := hl.2.2.1 K hKL
    rw [hKp] at ep
    have hcp : (nI p).toNatClampNeg = p := nI_clamp (by omega)
    have hcK : (nI K).toNatClampNeg = K := nI_clamp (by omega)
    have hin := hli k (by omega)
    rw [ep] at hK hKp hin
    rw [skS]
    by_cases e : nI p = lead
    · rw [if_pos (by rw [ep]; exact e)]
      obtain ⟨a, b, ⟨A', c1, c2, c3⟩, d⟩ := ih (k + 1) A s (by omega) hl hA hli
      exact ⟨a, b, ⟨A', c1, c2, by omega⟩, d⟩
    · rw [if_neg (by rw [ep]; exact e)]
      simp only [ep, hcp, hK, hcK]
      have hw : y_asks s x p H free L = 4 → K < L ∧ s 17 K = nI p := fun _ => ⟨hKL, hKp⟩
      by_cases d : y_asks s x p H free L = 0
      · rw [if_pos d]
        exact ⟨fa_lOK hl hp hw, fun k j h1 h2 => fa_o _ _ _ _ _ _ h1 _, ⟨A + 1, (fa_47 _ _ _ _ _ _).trans (by rw [hA, nI_1]), by omega, by omega⟩, fun v hv => fa_inL hw hv, Or.inr ⟨e, fa_inL hw hin⟩⟩
      · rw [if_neg d]
        obtain ⟨a, b, ⟨A', c1, c2, c3⟩, d, e2⟩ := ih (k + 1) (A + 1) (f_asks s x p (y_asks s x p H free L) L K) (by omega) (fa_lOK hl hp hw) (by rw [fa_47, hA, nI_1]) (fun j hj => by rw [fa_o _ _ _ _ _ _ (by omega)]; exact fa_inL hw (hli j hj))
        exact ⟨a, fun k j h1 h2 => (b k j h1 h2).trans (fa_o _ _ _ _ _ _ h1 _), ⟨A', c1, by omega, by omega⟩, fun v hv => d v (fa_inL hw hv), e2⟩
theorem seek_ok {s : mS} {x H P L A : Nat} {lead : Int32} (hP : P ≤ 60) (hl : lOK s P L) (hA : s 47 0 = nI A) (hw : ¬ s 24 x < 0 → ∃ q, q < P ∧ s 24 x = nI q) (hle : s 24 x < 0 ∨ lead = -1) : skK s P L A 60 lead (f_seek s x H lead L) := by
  have hLP := hl.2.1
  unfold f_seek
  generalize frS s x lead = free
  by_cases a : s 24 x < 0
  · rw [if_pos a]
    obtain ⟨h1, h2, ⟨A', c1, c2, c3⟩, h4, h5⟩ := sk_ok (x := x) (H := H) (free := free) (lead := lead) hP L 0 A (lnS L 0 s) (by omega) (lOK_o hl (fun j => lnS_o _ _ _ (by decide) _) (lnS_o _ _ _ (by decide) _)) (by rw [lnS_o _ _ _ (by decide)]; exact hA) (fun j hj => by
      rw [lnS_51, if_pos (by omega)]
      exact ⟨j, hj, lnS_o _ _ _ (by decide) _⟩)
    exact ⟨h1, fun k j e1 e2 => (h2 k j e1 e2).trans (lnS_o _ _ _ e2 _), ⟨A', c1, c2, by omega⟩, fun v hv => h4 v (inL_o hv (fun j => lnS_o _ _ _ (by decide) _)), h5⟩
  · rw [if_neg a]
    obtain ⟨q, hq, eq⟩ := hw a
    have hlead : lead = -1 := hle.resolve_left a
    have hcq : (nI q).toNatClampNeg = q := nI_clamp (by omega)
    have hin : ∀ w, y_asks s x q H free L = w → w ≠ 5 → ¬ pl s (nI q) L 0 = -1 := by
      intro w e h5 h6
      unfold y_asks at e
      rw [if_pos ⟨a, h6⟩] at e
      exact h5 e.symm
    have hw4 : y_asks s x q H free L = 4 → (pl s (nI q) L 0).toNatClampNeg < L ∧ s 17 (pl s (nI q) L 0).toNatClampNeg = nI q := by
      intro e
      obtain ⟨K, k1, k2, k3⟩ := inL_pl ((inL_iff hl hP).mpr (hin 4 e (by decide)))
      rw [k2, nI_clamp (by omega)]
      exact ⟨k1, k3⟩
    unfold skA
    simp only [eq, hcq]
    refine ⟨fa_lOK hl hq hw4, fun k j h1 h2 => fa_o _ _ _ _ _ _ h1 _, ⟨A + 1, (fa_47 _ _ _ _ _ _).trans (by rw [hA, nI_1]), by omega, by omega⟩, fun v hv => fa_inL hw4 hv, ?_⟩
    by_cases d : y_asks s x q H free L = 0
    · rw [if_pos d]
      refine Or.inr ⟨by rw [hlead]; exact nI_nm (by omega), fa_inL hw4 ((inL_iff hl hP).mpr (hin 0 d (by decide)))⟩
    · rw [if_neg d]
      exact Or.inl rfl
def bd (s : mS) (v : Int32) (x : Nat) (t : Int32) : mS := f_boards s v.toNatClampNeg x t (nL s) (pl s v (nL s) 0).toNatClampNeg
theorem bd_o (s : mS) (v : Int32) (x : Nat) (t : Int32) {k : Nat} (h1 : k ≠ 8) (h2 : k ≠ 9) (h3 : k ≠ 13) (h4 : k ≠ 17) (h5 : k ≠ 18) (h6 : k ≠ 49) (j : Nat) : bd s v x t k j = s k j := by
  unfold bd f_boards
  rw [su_other _ _ h3, su_other _ _ h1, su_other _ _ h5, tkS_o _ h4, b0S_o _ _ _ _ h6 h2]
theorem bd_l {s : mS} {P L : Nat} {v t : Int32} {x : Nat} (hP : P ≤ 60) (h : lOK s P L) (hv : inL s L v) : lOK (bd s v x t) P (L - 1) ∧ ∀ w, w ≠ v → inL s L w → inL (bd s v x t) (L - 1) w := by
  have hLP := h.2.1
  obtain ⟨K, hK, e1, e2⟩ := inL_pl hv
  have hcK : (nI K).toNatClampNeg = K := nI_clamp (by omega)
  unfold bd f_boards
  rw [nL_eq h hP, e1, hcK]
  have hb := lOK_o (s2 := b0S s v.toNatClampNeg x t) h (fun j => b0S_o _ _ _ _ (by decide) (by decide) _) (b0S_o _ _ _ _ (by decide) (by decide) _)
  refine ⟨lOK_o (lOK_tk hb hK) (fun j => by rw [su_other _ _ (by decide), su_other _ _ (by decide)]) (by rw [su_other _ _ (by decide), su_other _ _ (by decide)]), fun w hw hi => ?_⟩
  refine inL_o (inL_tk (s := b0S s v.toNatClampNeg x t) hK (by rw [b0S_o _ _ _ _ (by decide) (by decide), e2]; exact fun q => hw q.symm) (inL_o hi (fun j => b0S_o _ _ _ _ (by decide) (by decide) _))) (fun j => by rw [su_other _ _ (by decide), su_other _ _ (by decide)])
section MD
variable {g : Nat × Nat × Nat} {m0 : Nat} {s : mS} {h : xH}
theorem md_bd {x P L : Nat} {v t : Int32} (hx : x < 400) (hP : P ≤ 60) (hl : lOK s P L) (hv : inL s L v) (hm : g.1 ≤ m0) : Ev g 141 0 [some (.ref m0), some (.int v), some (.int (nI x)), some (.int t)] [] (mput m0 s h) (.inl none, mput m0 (bd s v x t) h) := by
  obtain ⟨p, hp, rfl⟩ := inL_p hl hv
  obtain ⟨K, hK, e1, e2⟩ := inL_pl hv
  have hLP := hl.2.1
  unfold bd
  rw [nL_eq hl hP, e1, nI_clamp (show K < 2 ^ 31 by omega), nI_clamp (show p < 2 ^ 31 by omega)]
  exact md_boards (by omega) hx hl.1 (by omega) e1 hK hm
/-- the first learner of the list from k on -/
def alS (s : mS) (x H : Nat) : Nat → Nat → Int32
  | 0, _ => -1
  | f + 1, k => if s 3 (s 17 k).toNatClampNeg = 2 ∧ s 7 (400 * (s 17 k).toNatClampNeg + H / 24) = 0 ∧ ¬ r_canBe s (s 17 k).toNatClampNeg x (s 49 0) = 0 ∧ ¬ s 6 (s 17 k).toNatClampNeg = 0 then s 17 k else alS s x H f (k + 1)
theorem al_in (s : mS) (x H L : Nat) : ∀ f k, k + f = L → alS s x H f k = -1 ∨ inL s L (alS s x H f k) := by
  intro f
  induction f with
  | zero => intro k _; exact Or.inl rfl
  | succ f ih =>
    intro k hk
    rw [alS]
    split
    · exact Or.inr ⟨k, by omega, rfl⟩
    · exact ih (k + 1) (by omega)
theorem lp_aLearner {x H P L : Nat} {a4 : Option Value} (hx : x < 400) (hH : H < 9600) (hP : P ≤ 60) (hl : lOK s P L) : ∀ (f k : Nat) (a4 : Option Value), k + f = L → Ev g 145 2 [some (.ref m0), some (.int (nI x)), some (.int (nI H)), some (.int (nI k)), a4] [] (mput m0 s h) (.inl (some (.int (alS s x H f k))), mput m0 s h) := by
  intro f
  have hLP := hl.2.1
  induction f with
  | zero =>
    intro k a4 hk
    have h2 : nI L ≤ nI k := nI_le (by omega) (by omega)
    simp only [e_X10_aLearner_0, e_X10_aLearner_1, e_X10_aLearner_2, e_X10_aLearner_3, e_X10_aLearner_4, e_X10_aLearner_7, e_X10_aLearner_10, e_X10_aLearner_11, e_X10_aLearner_14, e_X10_aLearner_15, e_X10_aLearner_16, e_X10_aLearner_18, e_X10_aLearner_19, e_X10_aLearner_22, e_X10_aLearner_24, e_X10_aLearner_25, e_X10_aLearner_26, e_X10_aLearner_29, e_X10_aLearner_30, e_X10_aLearner_33, e_X10_aLearner_36, e_X10_aLearner_38, e_X10_aLearner_39, e_X10_aLearner_40, e_X10_aLearner_42, e_X10_aLearner_43, e_X10_aLearner_44, e_X10_aLearner_45, e_X10_aLearner_48, e_X10_aLearner_49, e_X10_aLearner_51, e_X10_aLearner_52, e_X10_aLearner_53, e_X10_aLearner_59, e_X10_aLearner_62, e_X10_aLearner_63, e_X10_aLearner_66, e_X10_aLearner_68, e_X10_aLearner_69, e_X10_aLearner_72, e_X10_aLearner_74, e_X10_aLearner_75, e_X10_aLearner_78, e_X10_aLearner_81, e_X10_aLearner_82, e_X10_aLearner_0, e_X10_aLearner_1, e_X10_aLearner_3, e_X10_aLearner_4, e_X10_aLearner_7, e_X10_aLearner_10, e_X10_aLearner_11, e_X10_aLearner_14, e_X10_aLearner_15, e_X10_aLearner_16, e_X10_aLearner_18, e_X10_aLearner_19, e_X10_aLearner_22, e_X10_aLearner_24, e_X10_aLearner_25, e_X10_aLearner_26, e_X10_aLearner_29, e_X10_aLearner_30, e_X10_aLearner_33, e_X10_aLearner_36, e_X10_aLearner_38, e_X10_aLearner_39, e_X10_aLearner_40, e_X10_aLearner_42, e_X10_aLearner_43, e_X10_aLearner_44, e_X10_aLearner_45, e_X10_aLearner_48, e_X10_aLearner_49, e_X10_aLearner_51, e_X10_aLearner_52, e_X10_aLearner_53, e_X10_aLearner_59, e_X10_aLearner_62, e_X10_aLearner_63, e_X10_aLearner_66, e_X10_aLearner_68, e_X10_aLearner_69, e_X10_aLearner_72, e_X10_aLearner_74, e_X10_aLearner_75, e_X10_aLearner_78, e_X10_aLearner_81, e_X10_aLearner_82, c_X10_aLearner_56 _ (md_canBe _ _), mO, mg_18, mp_18, mg_17, mr_17, mA_17, ml_17, me_17, mp_17, mg_3, mr_3, mA_3, ml_3, me_3, mp_3, mg_7, mr_7, mA_7, ml_7, me_7, mp_7, mg_49, mp_49, mg_6, mr_6, mA_6, ml_6, me_6, mp_6, nem, su_get, z1e0, z2e0, z3e0, z4e0, z5e0, z0e1, zme0, Nat.reduceEqDiff, not_true_eq_false, and_self, false_or, or_false, or_self,  bI_eq0, bI_eq1, i10, i20, i30, i00, ne_eq, Decidable.not_not, true_and, and_true, false_and, and_false, xrd_ref, xrd_null, xrd_rf, xid_int, xcat_int, xcat_ref, xcat_null, xcat_long, xcat_rf, xfit_int, xfit_0, xfit_1, xfit_ref, xfit_null, xfit_rf, not_false_eq_true, ↓reduceIte, z01_0, z01_1, bI_01, true_or, or_true, hl.1, h2, alS]
  | succ f ih =>
    intro k a4 hk
    have h2 : ¬ nI L ≤ nI k := nI_ge (by omega) (by omega)
    have hn_k : ¬ nI k < 0 := nI_pos (by omega)
    have hc_k : (nI k).toNatClampNeg = k := nI_clamp (by omega)
    have hb_k : ¬ 60 ≤ k := by omega
    obtain ⟨p, hp, ep⟩ := hl.2.2.1 k (by omega)
    have hn_p : ¬ nI p < 0 := nI_pos (by omega)
    have hc_p : (nI p).toNatClampNeg = p := nI_clamp (by omega)
    have hb_p : ¬ 60 ≤ p := by omega
    have hn_q : ¬ nI (400*p+H/24) < 0 := nI_pos (by omega)
    have hc_q : (nI (400*p+H/24)).toNatClampNeg = (400*p+H/24) := nI_clamp (by omega)
    have hb_q : ¬ 24000 ≤ (400*p+H/24) := by omega
    rw [e_X10_aLearner_2 rfl]
    have ih := fun a4 => ih (k + 1) a4 (by omega)
    by_cases a : s 3 p = 2
    · by_cases b : s 7 (400*p+H/24) = 0
      · by_cases c : r_canBe s p x (s 49 0) = 0
        · simp only [e_X10_aLearner_0, e_X10_aLearner_1, e_X10_aLearner_3, e_X10_aLearner_4, e_X10_aLearner_7, e_X10_aLearner_10, e_X10_aLearner_11, e_X10_aLearner_14, e_X10_aLearner_15, e_X10_aLearner_16, e_X10_aLearner_18, e_X10_aLearner_19, e_X10_aLearner_22, e_X10_aLearner_24, e_X10_aLearner_25, e_X10_aLearner_26, e_X10_aLearner_29, e_X10_aLearner_30, e_X10_aLearner_33, e_X10_aLearner_36, e_X10_aLearner_38, e_X10_aLearner_39, e_X10_aLearner_40, e_X10_aLearner_42, e_X10_aLearner_43, e_X10_aLearner_44, e_X10_aLearner_45, e_X10_aLearner_48, e_X10_aLearner_49, e_X10_aLearner_51, e_X10_aLearner_52, e_X10_aLearner_53, e_X10_aLearner_59, e_X10_aLearner_62, e_X10_aLearner_63, e_X10_aLearner_66, e_X10_aLearner_68, e_X10_aLearner_69, e_X10_aLearner_72, e_X10_aLearner_74, e_X10_aLearner_75, e_X10_aLearner_78, e_X10_aLearner_81, e_X10_aLearner_82, c_X10_aLearner_56 _ (md_canBe (show p < 60 by omega) hx), mO, mg_18, mp_18, mg_17, mr_17, mA_17, ml_17, me_17, mp_17, mg_3, mr_3, mA_3, ml_3, me_3, mp_3, mg_7, mr_7, mA_7, ml_7, me_7, mp_7, mg_49, mp_49, mg_6, mr_6, mA_6, ml_6, me_6, mp_6, nem, su_get, z1e0, z2e0, z3e0, z4e0, z5e0, z0e1, zme0, Nat.reduceEqDiff, not_true_eq_false, and_self, false_or, or_false, or_self,  bI_eq0, bI_eq1, i10, i20, i30, i00, ne_eq, Decidable.not_not, true_and, and_true, false_and, and_false, xrd_ref, xrd_null, xrd_rf, xid_int, xcat_int, xcat_ref, xcat_null, xcat_long, xcat_rf, xfit_int, xfit_0, xfit_1, xfit_ref, xfit_null, xfit_rf, not_false_eq_true, ↓reduceIte, z01_0, z01_1, bI_01, true_or, or_true, hl.1, h2, hn_k, hc_k, hb_k, hn_p, hc_p, hb_p, hn_q, hc_q, hb_q, n24, nI_d24 (show H < 2 ^ 31 by omega), nI_m400, nI_add, nI_1, ep, a, b, c, ih, alS]
        · by_cases d : s 6 p = 0
          · simp only [e_X10_aLearner_0, e_X10_aLearner_1, e_X10_aLearner_3, e_X10_aLearner_4, e_X10_aLearner_7, e_X10_aLearner_10, e_X10_aLearner_11, e_X10_aLearner_14, e_X10_aLearner_15, e_X10_aLearner_16, e_X10_aLearner_18, e_X10_aLearner_19, e_X10_aLearner_22, e_X10_aLearner_24, e_X10_aLearner_25, e_X10_aLearner_26, e_X10_aLearner_29, e_X10_aLearner_30, e_X10_aLearner_33, e_X10_aLearner_36, e_X10_aLearner_38, e_X10_aLearner_39, e_X10_aLearner_40, e_X10_aLearner_42, e_X10_aLearner_43, e_X10_aLearner_44, e_X10_aLearner_45, e_X10_aLearner_48, e_X10_aLearner_49, e_X10_aLearner_51, e_X10_aLearner_52, e_X10_aLearner_53, e_X10_aLearner_59, e_X10_aLearner_62, e_X10_aLearner_63, e_X10_aLearner_66, e_X10_aLearner_68, e_X10_aLearner_69, e_X10_aLearner_72, e_X10_aLearner_74, e_X10_aLearner_75, e_X10_aLearner_78, e_X10_aLearner_81, e_X10_aLearner_82, c_X10_aLearner_56 _ (md_canBe (show p < 60 by omega) hx), mO, mg_18, mp_18, mg_17, mr_17, mA_17, ml_17, me_17, mp_17, mg_3, mr_3, mA_3, ml_3, me_3, mp_3, mg_7, mr_7, mA_7, ml_7, me_7, mp_7, mg_49, mp_49, mg_6, mr_6, mA_6, ml_6, me_6, mp_6, nem, su_get, z1e0, z2e0, z3e0, z4e0, z5e0, z0e1, zme0, Nat.reduceEqDiff, not_true_eq_false, and_self, false_or, or_false, or_self,  bI_eq0, bI_eq1, i10, i20, i30, i00, ne_eq, Decidable.not_not, true_and, and_true, false_and, and_false, xrd_ref, xrd_null, xrd_rf, xid_int, xcat_int, xcat_ref, xcat_null, xcat_long, xcat_rf, xfit_int, xfit_0, xfit_1, xfit_ref, xfit_null, xfit_rf, not_false_eq_true, ↓reduceIte, z01_0, z01_1, bI_01, true_or, or_true, hl.1, h2, hn_k, hc_k, hb_k, hn_p, hc_p, hb_p, hn_q, hc_q, hb_q, n24, nI_d24 (show H < 2 ^ 31 by omega), nI_m400, nI_add, nI_1, ep, a, b, c, d, ih, alS]
          · simp only [e_X10_aLearner_0, e_X10_aLearner_1, e_X10_aLearner_3, e_X10_aLearner_4, e_X10_aLearner_7, e_X10_aLearner_10, e_X10_aLearner_11, e_X10_aLearner_14, e_X10_aLearner_15, e_X10_aLearner_16, e_X10_aLearner_18, e_X10_aLearner_19, e_X10_aLearner_22, e_X10_aLearner_24, e_X10_aLearner_25, e_X10_aLearner_26, e_X10_aLearner_29, e_X10_aLearner_30, e_X10_aLearner_33, e_X10_aLearner_36, e_X10_aLearner_38, e_X10_aLearner_39, e_X10_aLearner_40, e_X10_aLearner_42, e_X10_aLearner_43, e_X10_aLearner_44, e_X10_aLearner_45, e_X10_aLearner_48, e_X10_aLearner_49, e_X10_aLearner_51, e_X10_aLearner_52, e_X10_aLearner_53, e_X10_aLearner_59, e_X10_aLearner_62, e_X10_aLearner_63, e_X10_aLearner_66, e_X10_aLearner_68, e_X10_aLearner_69, e_X10_aLearner_72, e_X10_aLearner_74, e_X10_aLearner_75, e_X10_aLearner_78, e_X10_aLearner_81, e_X10_aLearner_82, c_X10_aLearner_56 _ (md_canBe (show p < 60 by omega) hx), mO, mg_18, mp_18, mg_17, mr_17, mA_17, ml_17, me_17, mp_17, mg_3, mr_3, mA_3, ml_3, me_3, mp_3, mg_7, mr_7, mA_7, ml_7, me_7, mp_7, mg_49, mp_49, mg_6, mr_6, mA_6, ml_6, me_6, mp_6, nem, su_get, z1e0, z2e0, z3e0, z4e0, z5e0, z0e1, zme0, Nat.reduceEqDiff, not_true_eq_false, and_self, false_or, or_false, or_self,  bI_eq0, bI_eq1, i10, i20, i30, i00, ne_eq, Decidable.not_not, true_and, and_true, false_and, and_false, xrd_ref, xrd_null, xrd_rf, xid_int, xcat_int, xcat_ref, xcat_null, xcat_long, xcat_rf, xfit_int, xfit_0, xfit_1, xfit_ref, xfit_null, xfit_rf, not_false_eq_true, ↓reduceIte, z01_0, z01_1, bI_01, true_or, or_true, hl.1, h2, hn_k, hc_k, hb_k, hn_p, hc_p, hb_p, hn_q, hc_q, hb_q, n24, nI_d24 (show H < 2 ^ 31 by omega), nI_m400, nI_add, nI_1, ep, a, b, c, d, ih, alS]
      · simp only [e_X10_aLearner_0, e_X10_aLearner_1, e_X10_aLearner_3, e_X10_aLearner_4, e_X10_aLearner_7, e_X10_aLearner_10, e_X10_aLearner_11, e_X10_aLearner_14, e_X10_aLearner_15, e_X10_aLearner_16, e_X10_aLearner_18, e_X10_aLearner_19, e_X10_aLearner_22, e_X10_aLearner_24, e_X10_aLearner_25, e_X10_aLearner_26, e_X10_aLearner_29, e_X10_aLearner_30, e_X10_aLearner_33, e_X10_aLearner_36, e_X10_aLearner_38, e_X10_aLearner_39, e_X10_aLearner_40, e_X10_aLearner_42, e_X10_aLearner_43, e_X10_aLearner_44, e_X10_aLearner_45, e_X10_aLearner_48, e_X10_aLearner_49, e_X10_aLearner_51, e_X10_aLearner_52, e_X10_aLearner_53, e_X10_aLearner_59, e_X10_aLearner_62, e_X10_aLearner_63, e_X10_aLearner_66, e_X10_aLearner_68, e_X10_aLearner_69, e_X10_aLearner_72, e_X10_aLearner_74, e_X10_aLearner_75, e_X10_aLearner_78, e_X10_aLearner_81, e_X10_aLearner_82, mO, mg_18, mp_18, mg_17, mr_17, mA_17, ml_17, me_17, mp_17, mg_3, mr_3, mA_3, ml_3, me_3, mp_3, mg_7, mr_7, mA_7, ml_7, me_7, mp_7, mg_49, mp_49, mg_6, mr_6, mA_6, ml_6, me_6, mp_6, nem, su_get, z1e0, z2e0, z3e0, z4e0, z5e0, z0e1, zme0, Nat.reduceEqDiff, not_true_eq_false, and_self, false_or, or_false, or_self,  bI_eq0, bI_eq1, i10, i20, i30, i00, ne_eq, Decidable.not_not, true_and, and_true, false_and, and_false, xrd_ref, xrd_null, xrd_rf, xid_int, xcat_int, xcat_ref, xcat_null, xcat_long, xcat_rf, xfit_int, xfit_0, xfit_1, xfit_ref, xfit_null, xfit_rf, not_false_eq_true, ↓reduceIte, z01_0, z01_1, bI_01, true_or, or_true, hl.1, h2, hn_k, hc_k, hb_k, hn_p, hc_p, hb_p, hn_q, hc_q, hb_q, n24, nI_d24 (show H < 2 ^ 31 by omega), nI_m400, nI_add, nI_1, ep, a, b, ih, alS]
    · simp only [e_X10_aLearner_0, e_X10_aLearner_1, e_X10_aLearner_3, e_X10_aLearner_4, e_X10_aLearner_7, e_X10_aLearner_10, e_X10_aLearner_11, e_X10_aLearner_14, e_X10_aLearner_15, e_X10_aLearner_16, e_X10_aLearner_18, e_X10_aLearner_19, e_X10_aLearner_22, e_X10_aLearner_24, e_X10_aLearner_25, e_X10_aLearner_26, e_X10_aLearner_29, e_X10_aLearner_30, e_X10_aLearner_33, e_X10_aLearner_36, e_X10_aLearner_38, e_X10_aLearner_39, e_X10_aLearner_40, e_X10_aLearner_42, e_X10_aLearner_43, e_X10_aLearner_44, e_X10_aLearner_45, e_X10_aLearner_48, e_X10_aLearner_49, e_X10_aLearner_51, e_X10_aLearner_52, e_X10_aLearner_53, e_X10_aLearner_59, e_X10_aLearner_62, e_X10_aLearner_63, e_X10_aLearner_66, e_X10_aLearner_68, e_X10_aLearner_69, e_X10_aLearner_72, e_X10_aLearner_74, e_X10_aLearner_75, e_X10_aLearner_78, e_X10_aLearner_81, e_X10_aLearner_82, mO, mg_18, mp_18, mg_17, mr_17, mA_17, ml_17, me_17, mp_17, mg_3, mr_3, mA_3, ml_3, me_3, mp_3, mg_7, mr_7, mA_7, ml_7, me_7, mp_7, mg_49, mp_49, mg_6, mr_6, mA_6, ml_6, me_6, mp_6, nem, su_get, z1e0, z2e0, z3e0, z4e0, z5e0, z0e1, zme0, Nat.reduceEqDiff, not_true_eq_false, and_self, false_or, or_false, or_self,  bI_eq0, bI_eq1, i10, i20, i30, i00, ne_eq, Decidable.not_not, true_and, and_true, false_and, and_false, xrd_ref, xrd_null, xrd_rf, xid_int, xcat_int, xcat_ref, xcat_null, xcat_long, xcat_rf, xfit_int, xfit_0, xfit_1, xfit_ref, xfit_null, xfit_rf, not_false_eq_true, ↓reduceIte, z01_0, z01_1, bI_01, true_or, or_true, hl.1, h2, hn_k, hc_k, hb_k, hn_p, hc_p, hb_p, nI_1, ep, a, ih, alS]
theorem md_aLearner {x H P L : Nat} (hx : x < 400) (hH : H < 9600) (hP : P ≤ 60) (hl : lOK s P L) : Ev g 145 0 [some (.ref m0), some (.int (nI x)), some (.int (nI H)), none, none] [] (mput m0 s h) (.inl (some (.int (alS s x H (nL s) 0))), mput m0 s h) := by
  have := lp_aLearner (g := g) (m0 := m0) (h := h) (s := s) (a4 := none) hx hH hP hl L 0 none (by omega)
  rw [nI_0] at this
  simp only [e_X10_aLearner_0, e_X10_aLearner_1, e_X10_aLearner_3, e_X10_aLearner_4, e_X10_aLearner_7, e_X10_aLearner_10, e_X10_aLearner_11, e_X10_aLearner_14, e_X10_aLearner_15, e_X10_aLearner_16, e_X10_aLearner_18, e_X10_aLearner_19, e_X10_aLearner_22, e_X10_aLearner_24, e_X10_aLearner_25, e_X10_aLearner_26, e_X10_aLearner_29, e_X10_aLearner_30, e_X10_aLearner_33, e_X10_aLearner_36, e_X10_aLearner_38, e_X10_aLearner_39, e_X10_aLearner_40, e_X10_aLearner_42, e_X10_aLearner_43, e_X10_aLearner_44, e_X10_aLearner_45, e_X10_aLearner_48, e_X10_aLearner_49, e_X10_aLearner_51, e_X10_aLearner_52, e_X10_aLearner_53, e_X10_aLearner_59, e_X10_aLearner_62, e_X10_aLearner_63, e_X10_aLearner_66, e_X10_aLearner_68, e_X10_aLearner_69, e_X10_aLearner_72, e_X10_aLearner_74, e_X10_aLearner_75, e_X10_aLearner_78, e_X10_aLearner_81, e_X10_aLearner_82, nem, su_get, z1e0, z2e0, z3e0, z4e0, z5e0, z0e1, zme0, Nat.reduceEqDiff, not_true_eq_false, and_self, false_or, or_false, or_self,  bI_eq0, bI_eq1, i10, i20, i30, i00, ne_eq, Decidable.not_not, true_and, and_true, false_and, and_false, xrd_ref, xrd_null, xrd_rf, xid_int, xcat_int, xcat_ref, xcat_null, xcat_long, xcat_rf, xfit_int, xfit_0, xfit_1, xfit_ref, xfit_null, xfit_rf, not_false_eq_true, ↓reduceIte, z01_0, z01_1, bI_01, true_or, or_true, nL_eq hl hP, this]
/-! sending, from behind -/
def snF (x H : Nat) (s : mS) : mS := if s 30 x = -1 then s else bd s (s 30 x) x (nI H)
def snE (x H : Nat) (s : mS) : mS := snF x H (su s 30 x (if s 25 x = 0 then -1 else alS s x H (nL s) 0))
def snD (x H : Nat) (other : Int32) (s : mS) : mS := if other = -1 then s else bd s other x (nI H)
def snC (x H : Nat) (first : Int32) (q : Int32 × mS) : Int32 × mS := if first = -1 ∨ (q.2 24 x = -2 ∧ q.1 = -1) then (0, if q.2 48 0 = 0 then su q.2 32 x (q.2 32 x + 1) else su q.2 33 x (q.2 33 x + 1)) else (1, snE x H (snD x H q.1 (bd (su (su (su (su q.2 26 x 1) 27 x (nI H)) 28 x first) 29 x q.1) first x (nI H))))
def snB (x H : Nat) (q : Int32 × mS) : Int32 × mS := snC x H q.1 (if ¬ q.1 = -1 ∧ q.2 24 x = -2 then f_seek q.2 x H q.1 (nL q.2) else (-1, q.2))
def f_sends (s : mS) (x H : Nat) : Int32 × mS := if r_win s x H = 0 then (0, su s 31 x (s 31 x + 1)) else snB x H (f_seek (su s 48 0 0) x H (-1) (nL s))
theorem ev_snF {x H P L : Nat} {a3 a4 : Option Value} (hx : x < 400) (hP : P ≤ 60) (hl : lOK s P L) (hv : s 30 x = -1 ∨ inL s L (s 30 x)) (hm : g.1 ≤ m0) : Ev g 140 192 [some (.ref m0), some (.int (nI x)), some (.int (nI H)), a3, a4] [] (mput m0 s h) (.inl (some (.int 1)), mput m0 (snF x H s) h) := by
  have hn_x : ¬ nI x < 0 := nI_pos (by omega)
  have hc_x : (nI x).toNatClampNeg = x := nI_clamp (by omega)
  have hb_x : ¬ 400 ≤ x := by omega
  unfold snF
  by_cases a : s 30 x = -1
  · simp only [e_X10_sends_192, e_X10_sends_193, e_X10_sends_196, e_X10_sends_197, e_X10_sends_198, e_X10_sends_199, e_X10_sends_202, e_X10_sends_203, e_X10_sends_204, e_X10_sends_207, e_X10_sends_208, e_X10_sends_209, e_X10_sends_210, e_X10_sends_214, e_X10_sends_215, mO, mg_31, mr_31, mA_31, ml_31, me_31, mp_31, mg_48, mp_48, mg_24, mr_24, mA_24, ml_24, me_24, mp_24, mg_33, mr_33, mA_33, ml_33, me_33, mp_33, mg_32, mr_32, mA_32, ml_32, me_32, mp_32, mg_26, mr_26, mA_26, ml_26, me_26, mp_26, mg_27, mr_27, mA_27, ml_27, me_27, mp_27, mg_28, mr_28, mA_28, ml_28, me_28, mp_28, mg_29, mr_29, mA_29, ml_29, me_29, mp_29, mg_30, mr_30, mA_30, ml_30, me_30, mp_30, mg_25, mr_25, mA_25, ml_25, me_25, mp_25, nem, su_get, z1e0, z2e0, z3e0, z4e0, z5e0, z0e1, zme0, Nat.reduceEqDiff, not_true_eq_false, and_self, false_or, or_false, or_self,  bI_eq0, bI_eq1, i10, i20, i30, i00, ne_eq, Decidable.not_not, true_and, and_true, false_and, and_false, xrd_ref, xrd_null, xrd_rf, xid_int, xcat_int, xcat_ref, xcat_null, xcat_long, xcat_rf, xfit_int, xfit_0, xfit_1, xfit_ref, xfit_null, xfit_rf, not_false_eq_true, ↓reduceIte, z01_0, z01_1, bI_01, true_or, or_true, hn_x, hc_x, hb_x, a]
  · have hv := hv.resolve_left a
    have := md_bd (g := g) (m0 := m0) (h := h) (t := nI H) hx hP hl hv hm
    simp only [e_X10_sends_192, e_X10_sends_193, e_X10_sends_196, e_X10_sends_197, e_X10_sends_198, e_X10_sends_199, e_X10_sends_202, e_X10_sends_203, e_X10_sends_204, e_X10_sends_207, e_X10_sends_208, e_X10_sends_209, e_X10_sends_210, e_X10_sends_214, e_X10_sends_215, c_X10_sends_211 _ this, mO, mg_31, mr_31, mA_31, ml_31, me_31, mp_31, mg_48, mp_48, mg_24, mr_24, mA_24, ml_24, me_24, mp_24, mg_33, mr_33, mA_33, ml_33, me_33, mp_33, mg_32, mr_32, mA_32, ml_32, me_32, mp_32, mg_26, mr_26, mA_26, ml_26, me_26, mp_26, mg_27, mr_27, mA_27, ml_27, me_27, mp_27, mg_28, mr_28, mA_28, ml_28, me_28, mp_28, mg_29, mr_29, mA_29, ml_29, me_29, mp_29, mg_30, mr_30, mA_30, ml_30, me_30, mp_30, mg_25, mr_25, mA_25, ml_25, me_25, mp_25, nem, su_get, z1e0, z2e0, z3e0, z4e0, z5e0, z0e1, zme0, Nat.reduceEqDiff, not_true_eq_false, and_self, false_or, or_false, or_self,  bI_eq0, bI_eq1, i10, i20, i30, i00, ne_eq, Decidable.not_not, true_and, and_true, false_and, and_false, xrd_ref, xrd_null, xrd_rf, xid_int, xcat_int, xcat_ref, xcat_null, xcat_long, xcat_rf, xfit_int, xfit_0, xfit_1, xfit_ref, xfit_null, xfit_rf, not_false_eq_true, ↓reduceIte, z01_0, z01_1, bI_01, true_or, or_true, hn_x, hc_x, hb_x, a]
theorem ev_snE {x H P L : Nat} {a3 a4 : Option Value} (hx : x < 400) (hH : H < 9600) (hP : P ≤ 60) (hl : lOK s P L) (hm : g.1 ≤ m0) : Ev g 140 167 [some (.ref m0), some (.int (nI x)), some (.int (nI H)), a3, a4] [] (mput m0 s h) (.inl (some (.int 1)), mput m0 (snE x H s) h) := by
  have hn_x : ¬ nI x < 0 := nI_pos (by omega)
  have hc_x : (nI x).toNatClampNeg = x := nI_clamp (by omega)
  have hb_x : ¬ 400 ≤ x := by omega
  unfold snE
  have hl' : ∀ v, lOK (su s 30 x v) P L := fun v => lOK_o hl (fun j => su_other _ _ (by decide)) (su_other _ _ (by decide))
  by_cases a : s 25 x = 0
  · have := ev_snF (g := g) (m0 := m0) (h := h) (a3 := a3) (a4 := a4) (H := H) hx hP (hl' (-1)) (Or.inl (by simp [su])) hm
    simp only [e_X10_sends_167, e_X10_sends_168, e_X10_sends_171, e_X10_sends_172, e_X10_sends_173, e_X10_sends_176, e_X10_sends_177, e_X10_sends_178, e_X10_sends_181, e_X10_sends_182, e_X10_sends_183, e_X10_sends_187, e_X10_sends_190, e_X10_sends_191, mO, mg_31, mr_31, mA_31, ml_31, me_31, mp_31, mg_48, mp_48, mg_24, mr_24, mA_24, ml_24, me_24, mp_24, mg_33, mr_33, mA_33, ml_33, me_33, mp_33, mg_32, mr_32, mA_32, ml_32, me_32, mp_32, mg_26, mr_26, mA_26, ml_26, me_26, mp_26, mg_27, mr_27, mA_27, ml_27, me_27, mp_27, mg_28, mr_28, mA_28, ml_28, me_28, mp_28, mg_29, mr_29, mA_29, ml_29, me_29, mp_29, mg_30, mr_30, mA_30, ml_30, me_30, mp_30, mg_25, mr_25, mA_25, ml_25, me_25, mp_25, nem, su_get, z1e0, z2e0, z3e0, z4e0, z5e0, z0e1, zme0, Nat.reduceEqDiff, not_true_eq_false, and_self, false_or, or_false, or_self,  bI_eq0, bI_eq1, i10, i20, i30, i00, ne_eq, Decidable.not_not, true_and, and_true, false_and, and_false, xrd_ref, xrd_null, xrd_rf, xid_int, xcat_int, xcat_ref, xcat_null, xcat_long, xcat_rf, xfit_int, xfit_0, xfit_1, xfit_ref, xfit_null, xfit_rf, not_false_eq_true, ↓reduceIte, z01_0, z01_1, bI_01, true_or, or_true, hn_x, hc_x, hb_x, a, hm, hmk hm, this]
  · have := ev_snF (g := g) (m0 := m0) (h := h) (a3 := a3) (a4 := a4) (H := H) hx hP (hl' (alS s x H (nL s) 0)) (by
      have e : ∀ v, su s 30 x v 30 x = v := fun v => by simp [su]
      rw [nL_eq hl hP, e]
      rcases al_in s x H L L 0 (by omega) with q | q
      · exact Or.inl q
      · exact Or.inr (inL_o q (fun j => su_other _ _ (by decide)))) hm
    simp only [e_X10_sends_167, e_X10_sends_168, e_X10_sends_171, e_X10_sends_172, e_X10_sends_173, e_X10_sends_176, e_X10_sends_177, e_X10_sends_178, e_X10_sends_181, e_X10_sends_182, e_X10_sends_183, e_X10_sends_187, e_X10_sends_190, e_X10_sends_191, c_X10_sends_184 _ _ (md_aLearner hx hH hP hl), mO, mg_31, mr_31, mA_31, ml_31, me_31, mp_31, mg_48, mp_48, mg_24, mr_24, mA_24, ml_24, me_24, mp_24, mg_33, mr_33, mA_33, ml_33, me_33, mp_33, mg_32, mr_32, mA_32, ml_32, me_32, mp_32, mg_26, mr_26, mA_26, ml_26, me_26, mp_26, mg_27, mr_27, mA_27, ml_27, me_27, mp_27, mg_28, mr_28, mA_28, ml_28, me_28, mp_28, mg_29, mr_29, mA_29, ml_29, me_29, mp_29, mg_30, mr_30, mA_30, ml_30, me_30, mp_30, mg_25, mr_25, mA_25, ml_25, me_25, mp_25, nem, su_get, z1e0, z2e0, z3e0, z4e0, z5e0, z0e1, zme0, Nat.reduceEqDiff, not_true_eq_false, and_self, false_or, or_false, or_self,  bI_eq0, bI_eq1, i10, i20, i30, i00, ne_eq, Decidable.not_not, true_and, and_true, false_and, and_false, xrd_ref, xrd_null, xrd_rf, xid_int, xcat_int, xcat_ref, xcat_null, xcat_long, xcat_rf, xfit_int, xfit_0, xfit_1, xfit_ref, xfit_null, xfit_rf, not_false_eq_true, ↓reduceIte, z01_0, z01_1, bI_01, true_or, or_true, hn_x, hc_x, hb_x, a, hm, hmk hm, this]
theorem ev_snD {x H P L : Nat} {a3 : Option Value} {other : Int32} (hx : x < 400) (hH : H < 9600) (hP : P ≤ 60) (hl : lOK s P L) (ho : other = -1 ∨ inL s L other) (hm : g.1 ≤ m0) : Ev g 140 153 [some (.ref m0), some (.int (nI x)), some (.int (nI H)), a3, some (.int other)] [] (mput m0 s h) (.inl (some (.int 1)), mput m0 (snE x H (snD x H other s)) h) := by
  have hn_x : ¬ nI x < 0 := nI_pos (by omega)
  have hc_x : (nI x).toNatClampNeg = x := nI_clamp (by omega)
  have hb_x : ¬ 400 ≤ x := by omega
  unfold snD
  by_cases a : other = -1
  · have := ev_snE (g := g) (m0 := m0) (h := h) (a3 := a3) (a4 := some (.int other)) hx hH hP hl hm
    simp only [e_X10_sends_153, e_X10_sends_155, e_X10_sends_156, e_X10_sends_159, e_X10_sends_160, e_X10_sends_162, e_X10_sends_163, mO, mg_31, mr_31, mA_31, ml_31, me_31, mp_31, mg_48, mp_48, mg_24, mr_24, mA_24, ml_24, me_24, mp_24, mg_33, mr_33, mA_33, ml_33, me_33, mp_33, mg_32, mr_32, mA_32, ml_32, me_32, mp_32, mg_26, mr_26, mA_26, ml_26, me_26, mp_26, mg_27, mr_27, mA_27, ml_27, me_27, mp_27, mg_28, mr_28, mA_28, ml_28, me_28, mp_28, mg_29, mr_29, mA_29, ml_29, me_29, mp_29, mg_30, mr_30, mA_30, ml_30, me_30, mp_30, mg_25, mr_25, mA_25, ml_25, me_25, mp_25, nem, su_get, z1e0, z2e0, z3e0, z4e0, z5e0, z0e1, zme0, Nat.reduceEqDiff, not_true_eq_false, and_self, false_or, or_false, or_self,  bI_eq0, bI_eq1, i10, i20, i30, i00, ne_eq, Decidable.not_not, true_and, and_true, false_and, and_false, xrd_ref, xrd_null, xrd_rf, xid_int, xcat_int, xcat_ref, xcat_null, xcat_long, xcat_rf, xfit_int, xfit_0, xfit_1, xfit_ref, xfit_null, xfit_rf, not_false_eq_true, ↓reduceIte, z01_0, z01_1, bI_01, true_or, or_true, a] at this ⊢
    exact this
  · have ho := ho.resolve_left a
    have h1 := md_bd (g := g) (m0 := m0) (h := h) (t := nI H) hx hP hl ho hm
    have h2 := ev_snE (g := g) (m0 := m0) (h := h) (a3 := a3) (a4 := some (.int other)) hx hH hP (bd_l (x := x) (t := nI H) hP hl ho).1 hm
    simp only [e_X10_sends_153, e_X10_sends_155, e_X10_sends_156, e_X10_sends_159, e_X10_sends_160, e_X10_sends_162, e_X10_sends_163, c_X10_sends_164 _ h1, mO, mg_31, mr_31, mA_31, ml_31, me_31, mp_31, mg_48, mp_48, mg_24, mr_24, mA_24, ml_24, me_24, mp_24, mg_33, mr_33, mA_33, ml_33, me_33, mp_33, mg_32, mr_32, mA_32, ml_32, me_32, mp_32, mg_26, mr_26, mA_26, ml_26, me_26, mp_26, mg_27, mr_27, mA_27, ml_27, me_27, mp_27, mg_28, mr_28, mA_28, ml_28, me_28, mp_28, mg_29, mr_29, mA_29, ml_29, me_29, mp_29, mg_30, mr_30, mA_30, ml_30, me_30, mp_30, mg_25, mr_25, mA_25, ml_25, me_25, mp_25, nem, su_get, z1e0, z2e0, z3e0, z4e0, z5e0, z0e1, zme0, Nat.reduceEqDiff, not_true_eq_false, and_self, false_or, or_false, or_self,  bI_eq0, bI_eq1, i10, i20, i30, i00, ne_eq, Decidable.not_not, true_and, and_true, false_and, and_false, xrd_ref, xrd_null, xrd_rf, xid_int, xcat_int, xcat_ref, xcat_null, xcat_long, xcat_rf, xfit_int, xfit_0, xfit_1, xfit_ref, xfit_null, xfit_rf, not_false_eq_true, ↓reduceIte, z01_0, z01_1, bI_01, true_or, or_true, a, h2]
/-- from the choice on -/
theorem ev_snC {x H P L : Nat} {first other : Int32} (hx : x < 400) (hH : H < 9600) (hP : P ≤ 60) (hl : lOK s P L) (hf : first = -1 ∨ inL s L first) (ho : other = -1 ∨ (other ≠ first ∧ inL s L other)) (hm : g.1 ≤ m0) : Ev g 140 63 [some (.ref m0), some (.int (nI x)), some (.int (nI H)), some (.int first), some (.int other)] [] (mput m0 s h) (.inl (some (.int (snC x H first (other, s)).1)), mput m0 (snC x H first (other, s)).2 h) := by
  have hn_x : ¬ nI x < 0 := nI_pos (by omega)
  have hc_x : (nI x).toNatClampNeg = x := nI_clamp (by omega)
  have hb_x : ¬ 400 ≤ x := by omega
  unfold snC
  have h0 : ∀ {out : xR}, Ev g 140 85 [some (.ref m0), some (.int (nI x)), some (.int (nI H)), some (.int first), some (.int other)] [] (mput m0 s h) out = (out = (.inl (some (.int 0)), mput m0 (if s 48 0 = 0 then su s 32 x (s 32 x + 1) else su s 33 x (s 33 x + 1)) h)) := by
    intro out
    by_cases a : s 48 0 = 0
    · simp only [e_X10_sends_85, e_X10_sends_86, e_X10_sends_89, e_X10_sends_92, e_X10_sends_93, e_X10_sends_96, e_X10_sends_97, e_X10_sends_98, e_X10_sends_99, e_X10_sends_100, e_X10_sends_101, e_X10_sends_102, e_X10_sends_105, e_X10_sends_106, e_X10_sends_109, e_X10_sends_110, e_X10_sends_111, e_X10_sends_112, e_X10_sends_113, e_X10_sends_114, e_X10_sends_115, e_X10_sends_116, mO, mg_31, mr_31, mA_31, ml_31, me_31, mp_31, mg_48, mp_48, mg_24, mr_24, mA_24, ml_24, me_24, mp_24, mg_33, mr_33, mA_33, ml_33, me_33, mp_33, mg_32, mr_32, mA_32, ml_32, me_32, mp_32, mg_26, mr_26, mA_26, ml_26, me_26, mp_26, mg_27, mr_27, mA_27, ml_27, me_27, mp_27, mg_28, mr_28, mA_28, ml_28, me_28, mp_28, mg_29, mr_29, mA_29, ml_29, me_29, mp_29, mg_30, mr_30, mA_30, ml_30, me_30, mp_30, mg_25, mr_25, mA_25, ml_25, me_25, mp_25, nem, su_get, z1e0, z2e0, z3e0, z4e0, z5e0, z0e1, zme0, Nat.reduceEqDiff, not_true_eq_false, and_self, false_or, or_false, or_self,  bI_eq0, bI_eq1, i10, i20, i30, i00, ne_eq, Decidable.not_not, true_and, and_true, false_and, and_false, xrd_ref, xrd_null, xrd_rf, xid_int, xcat_int, xcat_ref, xcat_null, xcat_long, xcat_rf, xfit_int, xfit_0, xfit_1, xfit_ref, xfit_null, xfit_rf, not_false_eq_true, ↓reduceIte, z01_0, z01_1, bI_01, true_or, or_true, hn_x, hc_x, hb_x, hm, hmk hm, a]
    · simp only [e_X10_sends_85, e_X10_sends_86, e_X10_sends_89, e_X10_sends_92, e_X10_sends_93, e_X10_sends_96, e_X10_sends_97, e_X10_sends_98, e_X10_sends_99, e_X10_sends_100, e_X10_sends_101, e_X10_sends_102, e_X10_sends_105, e_X10_sends_106, e_X10_sends_109, e_X10_sends_110, e_X10_sends_111, e_X10_sends_112, e_X10_sends_113, e_X10_sends_114, e_X10_sends_115, e_X10_sends_116, mO, mg_31, mr_31, mA_31, ml_31, me_31, mp_31, mg_48, mp_48, mg_24, mr_24, mA_24, ml_24, me_24, mp_24, mg_33, mr_33, mA_33, ml_33, me_33, mp_33, mg_32, mr_32, mA_32, ml_32, me_32, mp_32, mg_26, mr_26, mA_26, ml_26, me_26, mp_26, mg_27, mr_27, mA_27, ml_27, me_27, mp_27, mg_28, mr_28, mA_28, ml_28, me_28, mp_28, mg_29, mr_29, mA_29, ml_29, me_29, mp_29, mg_30, mr_30, mA_30, ml_30, me_30, mp_30, mg_25, mr_25, mA_25, ml_25, me_25, mp_25, nem, su_get, z1e0, z2e0, z3e0, z4e0, z5e0, z0e1, zme0, Nat.reduceEqDiff, not_true_eq_false, and_self, false_or, or_false, or_self,  bI_eq0, bI_eq1, i10, i20, i30, i00, ne_eq, Decidable.not_not, true_and, and_true, false_and, and_false, xrd_ref, xrd_null, xrd_rf, xid_int, xcat_int, xcat_ref, xcat_null, xcat_long, xcat_rf, xfit_int, xfit_0, xfit_1, xfit_ref, xfit_null, xfit_rf, not_false_eq_true, ↓reduceIte, z01_0, z01_1, bI_01, true_or, or_true, hn_x, hc_x, hb_x, hm, hmk hm, a]
  by_cases a : first = -1
  · subst a
    simp only [e_X10_sends_63, e_X10_sends_64, e_X10_sends_65, e_X10_sends_68, e_X10_sends_69, e_X10_sends_72, e_X10_sends_73, e_X10_sends_74, e_X10_sends_76, e_X10_sends_79, e_X10_sends_81, e_X10_sends_82, mO, mg_31, mr_31, mA_31, ml_31, me_31, mp_31, mg_48, mp_48, mg_24, mr_24, mA_24, ml_24, me_24, mp_24, mg_33, mr_33, mA_33, ml_33, me_33, mp_33, mg_32, mr_32, mA_32, ml_32, me_32, mp_32, mg_26, mr_26, mA_26, ml_26, me_26, mp_26, mg_27, mr_27, mA_27, ml_27, me_27, mp_27, mg_28, mr_28, mA_28, ml_28, me_28, mp_28, mg_29, mr_29, mA_29, ml_29, me_29, mp_29, mg_30, mr_30, mA_30, ml_30, me_30, mp_30, mg_25, mr_25, mA_25, ml_25, me_25, mp_25, nem, su_get, z1e0, z2e0, z3e0, z4e0, z5e0, z0e1, zme0, Nat.reduceEqDiff, not_true_eq_false, and_self, false_or, or_false, or_self,  bI_eq0, bI_eq1, i10, i20, i30, i00, ne_eq, Decidable.not_not, true_and, and_true, false_and, and_false, xrd_ref, xrd_null, xrd_rf, xid_int, xcat_int, xcat_ref, xcat_null, xcat_long, xcat_rf, xfit_int, xfit_0, xfit_1, xfit_ref, xfit_null, xfit_rf, not_false_eq_true, ↓reduceIte, z01_0, z01_1, bI_01, true_or, or_true, h0]
  · have hf := hf.resolve_left a
    have h1 : Ev g 140 117 [some (.ref m0), some (.int (nI x)), some (.int (nI H)), some (.int first), some (.int other)] [] (mput m0 s h) (.inl (some (.int 1)), mput m0 (snE x H (snD x H other (bd (su (su (su (su s 26 x 1) 27 x (nI H)) 28 x first) 29 x other) first x (nI H)))) h) := by
      have e17 : ∀ j, (su (su (su (su s 26 x 1) 27 x (nI H)) 28 x first) 29 x other) 17 j = s 17 j := fun j => by
        rw [su_other _ _ (by decide), su_other _ _ (by decide), su_other _ _ (by decide), su_other _ _ (by decide)]
      have e18 : (su (su (su (su s 26 x 1) 27 x (nI H)) 28 x first) 29 x other) 18 0 = s 18 0 := by
        rw [su_other _ _ (by decide), su_other _ _ (by decide), su_other _ _ (by decide), su_other _ _ (by decide)]
      have l1 := lOK_o hl e17 e18
      have i1 := inL_o hf e17
      have k1 := md_bd (g := g) (m0 := m0) (h := h) (t := nI H) hx hP l1 i1 hm
      have l2 := bd_l (x := x) (t := nI H) hP l1 i1
      have k2 := ev_snD (g := g) (m0 := m0) (h := h) (a3 := some (.int first)) (other := other) hx hH hP l2.1 (by
        rcases ho with q | q
        · exact Or.inl q
        · exact Or.inr (l2.2 _ q.1 (inL_o q.2 e17))) hm
      simp only [e_X10_sends_117, e_X10_sends_118, e_X10_sends_121, e_X10_sends_122, e_X10_sends_123, e_X10_sends_124, e_X10_sends_125, e_X10_sends_128, e_X10_sends_129, e_X10_sends_130, e_X10_sends_131, e_X10_sends_132, e_X10_sends_135, e_X10_sends_136, e_X10_sends_137, e_X10_sends_138, e_X10_sends_139, e_X10_sends_142, e_X10_sends_143, e_X10_sends_145, e_X10_sends_146, e_X10_sends_147, e_X10_sends_148, e_X10_sends_149, c_X10_sends_150 _ k1, mO, mg_31, mr_31, mA_31, ml_31, me_31, mp_31, mg_48, mp_48, mg_24, mr_24, mA_24, ml_24, me_24, mp_24, mg_33, mr_33, mA_33, ml_33, me_33, mp_33, mg_32, mr_32, mA_32, ml_32, me_32, mp_32, mg_26, mr_26, mA_26, ml_26, me_26, mp_26, mg_27, mr_27, mA_27, ml_27, me_27, mp_27, mg_28, mr_28, mA_28, ml_28, me_28, mp_28, mg_29, mr_29, mA_29, ml_29, me_29, mp_29, mg_30, mr_30, mA_30, ml_30, me_30, mp_30, mg_25, mr_25, mA_25, ml_25, me_25, mp_25, nem, su_get, z1e0, z2e0, z3e0, z4e0, z5e0, z0e1, zme0, Nat.reduceEqDiff, not_true_eq_false, and_self, false_or, or_false, or_self,  bI_eq0, bI_eq1, i10, i20, i30, i00, ne_eq, Decidable.not_not, true_and, and_true, false_and, and_false, xrd_ref, xrd_null, xrd_rf, xid_int, xcat_int, xcat_ref, xcat_null, xcat_long, xcat_rf, xfit_int, xfit_0, xfit_1, xfit_ref, xfit_null, xfit_rf, not_false_eq_true, ↓reduceIte, z01_0, z01_1, bI_01, true_or, or_true, hn_x, hc_x, hb_x, hm, hmk hm, k2]
    by_cases b : s 24 x = -2
    · by_cases c : other = -1
      · subst c
        simp only [e_X10_sends_63, e_X10_sends_64, e_X10_sends_65, e_X10_sends_68, e_X10_sends_69, e_X10_sends_72, e_X10_sends_73, e_X10_sends_74, e_X10_sends_76, e_X10_sends_79, e_X10_sends_81, e_X10_sends_82, mO, mg_31, mr_31, mA_31, ml_31, me_31, mp_31, mg_48, mp_48, mg_24, mr_24, mA_24, ml_24, me_24, mp_24, mg_33, mr_33, mA_33, ml_33, me_33, mp_33, mg_32, mr_32, mA_32, ml_32, me_32, mp_32, mg_26, mr_26, mA_26, ml_26, me_26, mp_26, mg_27, mr_27, mA_27, ml_27, me_27, mp_27, mg_28, mr_28, mA_28, ml_28, me_28, mp_28, mg_29, mr_29, mA_29, ml_29, me_29, mp_29, mg_30, mr_30, mA_30, ml_30, me_30, mp_30, mg_25, mr_25, mA_25, ml_25, me_25, mp_25, nem, su_get, z1e0, z2e0, z3e0, z4e0, z5e0, z0e1, zme0, Nat.reduceEqDiff, not_true_eq_false, and_self, false_or, or_false, or_self,  bI_eq0, bI_eq1, i10, i20, i30, i00, ne_eq, Decidable.not_not, true_and, and_true, false_and, and_false, xrd_ref, xrd_null, xrd_rf, xid_int, xcat_int, xcat_ref, xcat_null, xcat_long, xcat_rf, xfit_int, xfit_0, xfit_1, xfit_ref, xfit_null, xfit_rf, not_false_eq_true, ↓reduceIte, z01_0, z01_1, bI_01, true_or, or_true, hn_x, hc_x, hb_x, h0, a, b]
      · simp only [e_X10_sends_63, e_X10_sends_64, e_X10_sends_65, e_X10_sends_68, e_X10_sends_69, e_X10_sends_72, e_X10_sends_73, e_X10_sends_74, e_X10_sends_76, e_X10_sends_79, e_X10_sends_81, e_X10_sends_82, mO, mg_31, mr_31, mA_31, ml_31, me_31, mp_31, mg_48, mp_48, mg_24, mr_24, mA_24, ml_24, me_24, mp_24, mg_33, mr_33, mA_33, ml_33, me_33, mp_33, mg_32, mr_32, mA_32, ml_32, me_32, mp_32, mg_26, mr_26, mA_26, ml_26, me_26, mp_26, mg_27, mr_27, mA_27, ml_27, me_27, mp_27, mg_28, mr_28, mA_28, ml_28, me_28, mp_28, mg_29, mr_29, mA_29, ml_29, me_29, mp_29, mg_30, mr_30, mA_30, ml_30, me_30, mp_30, mg_25, mr_25, mA_25, ml_25, me_25, mp_25, nem, su_get, z1e0, z2e0, z3e0, z4e0, z5e0, z0e1, zme0, Nat.reduceEqDiff, not_true_eq_false, and_self, false_or, or_false, or_self,  bI_eq0, bI_eq1, i10, i20, i30, i00, ne_eq, Decidable.not_not, true_and, and_true, false_and, and_false, xrd_ref, xrd_null, xrd_rf, xid_int, xcat_int, xcat_ref, xcat_null, xcat_long, xcat_rf, xfit_int, xfit_0, xfit_1, xfit_ref, xfit_null, xfit_rf, not_false_eq_true, ↓reduceIte, z01_0, z01_1, bI_01, true_or, or_true, hn_x, hc_x, hb_x, h1, a, b, c]
    · simp only [e_X10_sends_63, e_X10_sends_64, e_X10_sends_65, e_X10_sends_68, e_X10_sends_69, e_X10_sends_72, e_X10_sends_73, e_X10_sends_74, e_X10_sends_76, e_X10_sends_79, e_X10_sends_81, e_X10_sends_82, mO, mg_31, mr_31, mA_31, ml_31, me_31, mp_31, mg_48, mp_48, mg_24, mr_24, mA_24, ml_24, me_24, mp_24, mg_33, mr_33, mA_33, ml_33, me_33, mp_33, mg_32, mr_32, mA_32, ml_32, me_32, mp_32, mg_26, mr_26, mA_26, ml_26, me_26, mp_26, mg_27, mr_27, mA_27, ml_27, me_27, mp_27, mg_28, mr_28, mA_28, ml_28, me_28, mp_28, mg_29, mr_29, mA_29, ml_29, me_29, mp_29, mg_30, mr_30, mA_30, ml_30, me_30, mp_30, mg_25, mr_25, mA_25, ml_25, me_25, mp_25, nem, su_get, z1e0, z2e0, z3e0, z4e0, z5e0, z0e1, zme0, Nat.reduceEqDiff, not_true_eq_false, and_self, false_or, or_false, or_self,  bI_eq0, bI_eq1, i10, i20, i30, i00, ne_eq, Decidable.not_not, true_and, and_true, false_and, and_false, xrd_ref, xrd_null, xrd_rf, xid_int, xcat_int, xcat_ref, xcat_null, xcat_long, xcat_rf, xfit_int, xfit_0, xfit_1, xfit_ref, xfit_null, xfit_rf, not_false_eq_true, ↓reduceIte, z01_0, z01_1, bI_01, true_or, or_true, hn_x, hc_x, hb_x, h1, a, b]
theorem md_sends {x H P L A : Nat} (hm : g.1 ≤ m0) (hx : x < 400) (hH : H < 9600) (hP : P ≤ 60) (hl : lOK s P L) (hkk : kOK s P) (hA : s 47 0 = nI A) (hA2 : A + 120 < 2 ^ 31) (hw : ¬ s 24 x < 0 → ∃ q, q < P ∧ s 24 x = nI q) : Ev g 140 0 [some (.ref m0), some (.int (nI x)), some (.int (nI H)), none, none] [] (mput m0 s h) (.inl (some (.int (f_sends s x H).1)), mput m0 (f_sends s x H).2 h) := by
  have hn_x : ¬ nI x < 0 := nI_pos (by omega)
  have hc_x : (nI x).toNatClampNeg = x := nI_clamp (by omega)
  have hb_x : ¬ 400 ≤ x := by omega
  unfold f_sends
  by_cases a : r_win s x H = 0
  · simp only [e_X10_sends_0, e_X10_sends_1, e_X10_sends_2, e_X10_sends_6, e_X10_sends_9, e_X10_sends_10, e_X10_sends_13, e_X10_sends_14, e_X10_sends_15, e_X10_sends_16, e_X10_sends_17, e_X10_sends_18, e_X10_sends_19, e_X10_sends_20, e_X10_sends_21, e_X10_sends_22, e_X10_sends_23, c_X10_sends_3 _ (md_hasWindow hx hH), mO, mg_31, mr_31, mA_31, ml_31, me_31, mp_31, mg_48, mp_48, mg_24, mr_24, mA_24, ml_24, me_24, mp_24, mg_33, mr_33, mA_33, ml_33, me_33, mp_33, mg_32, mr_32, mA_32, ml_32, me_32, mp_32, mg_26, mr_26, mA_26, ml_26, me_26, mp_26, mg_27, mr_27, mA_27, ml_27, me_27, mp_27, mg_28, mr_28, mA_28, ml_28, me_28, mp_28, mg_29, mr_29, mA_29, ml_29, me_29, mp_29, mg_30, mr_30, mA_30, ml_30, me_30, mp_30, mg_25, mr_25, mA_25, ml_25, me_25, mp_25, nem, su_get, z1e0, z2e0, z3e0, z4e0, z5e0, z0e1, zme0, Nat.reduceEqDiff, not_true_eq_false, and_self, false_or, or_false, or_self,  bI_eq0, bI_eq1, i10, i20, i30, i00, ne_eq, Decidable.not_not, true_and, and_true, false_and, and_false, xrd_ref, xrd_null, xrd_rf, xid_int, xcat_int, xcat_ref, xcat_null, xcat_long, xcat_rf, xfit_int, xfit_0, xfit_1, xfit_ref, xfit_null, xfit_rf, not_false_eq_true, ↓reduceIte, z01_0, z01_1, bI_01, true_or, or_true, hn_x, hc_x, hb_x, hm, hmk hm, a]
  · have e48 : ∀ k j, k ≠ 48 → (su s 48 0 0) k j = s k j := fun k j q => su_other _ _ q
    have l1 : lOK (su s 48 0 0) P L := lOK_o hl (fun j => e48 _ _ (by decide)) (e48 _ _ (by decide))
    have hw1 : ¬ (su s 48 0 0) 24 x < 0 → ∃ q, q < P ∧ (su s 48 0 0) 24 x = nI q := by rw [e48 _ _ (by decide)]; exact hw
    have hA1 : (su s 48 0 0) 47 0 = nI A := by rw [e48 _ _ (by decide)]; exact hA
    have hk1 : kOK (su s 48 0 0) P := fun p hp => by rw [e48 _ _ (by decide)]; exact hkk p hp
    have k1 := md_seek (g := g) (m0 := m0) (h := h) (lead := -1) hm hx hH hP l1 hk1 hA1 (by omega) hw1 (Or.inl rfl)
    obtain ⟨q1, q2, ⟨A', c1, c2, c3⟩, q4, q5⟩ := seek_ok (x := x) (H := H) (lead := -1) hP l1 hA1 hw1 (Or.inr rfl)
    rw [nL_eq hl hP]
    simp only [e_X10_sends_0, e_X10_sends_1, e_X10_sends_2, e_X10_sends_6, e_X10_sends_9, e_X10_sends_10, e_X10_sends_13, e_X10_sends_14, e_X10_sends_15, e_X10_sends_16, e_X10_sends_17, e_X10_sends_18, e_X10_sends_19, e_X10_sends_20, e_X10_sends_21, e_X10_sends_22, e_X10_sends_23, e_X10_sends_26, e_X10_sends_27, e_X10_sends_28, e_X10_sends_29, e_X10_sends_33, c_X10_sends_3 _ (md_hasWindow hx hH), c_X10_sends_30 _ k1, mO, mg_31, mr_31, mA_31, ml_31, me_31, mp_31, mg_48, mp_48, mg_24, mr_24, mA_24, ml_24, me_24, mp_24, mg_33, mr_33, mA_33, ml_33, me_33, mp_33, mg_32, mr_32, mA_32, ml_32, me_32, mp_32, mg_26, mr_26, mA_26, ml_26, me_26, mp_26, mg_27, mr_27, mA_27, ml_27, me_27, mp_27, mg_28, mr_28, mA_28, ml_28, me_28, mp_28, mg_29, mr_29, mA_29, ml_29, me_29, mp_29, mg_30, mr_30, mA_30, ml_30, me_30, mp_30, mg_25, mr_25, mA_25, ml_25, me_25, mp_25, nem, su_get, z1e0, z2e0, z3e0, z4e0, z5e0, z0e1, zme0, Nat.reduceEqDiff, not_true_eq_false, and_self, false_or, or_false, or_self,  bI_eq0, bI_eq1, i10, i20, i30, i00, ne_eq, Decidable.not_not, true_and, and_true, false_and, and_false, xrd_ref, xrd_null, xrd_rf, xid_int, xcat_int, xcat_ref, xcat_null, xcat_long, xcat_rf, xfit_int, xfit_0, xfit_1, xfit_ref, xfit_null, xfit_rf, not_false_eq_true, ↓reduceIte, z01_0, z01_1, bI_01, true_or, or_true, hn_x, hc_x, hb_x, hm, hmk hm, a]
    generalize f_seek (su s 48 0 0) x H (-1) L = r at q1 q2 c1 q4 q5 ⊢
    obtain ⟨first, s2⟩ := r
    simp only at q1 q2 c1 q4 q5 ⊢
    have hk2 : kOK s2 P := fun p hp => by rw [q2 _ _ (by omega) (by omega)]; exact hk1 p hp
    have e24 : s2 24 x = s 24 x := by rw [q2 _ _ (by omega) (by omega), e48 _ _ (by decide)]
    have hf : first = -1 ∨ inL s2 L first := q5.imp id (fun q => q.2)
    unfold snB
    by_cases b : first = -1
    · have := ev_snC (g := g) (m0 := m0) (h := h) (other := -1) hx hH hP q1 hf (Or.inl rfl) hm
      subst b
      simp only [e_X10_sends_34, e_X10_sends_35, e_X10_sends_36, e_X10_sends_39, e_X10_sends_40, e_X10_sends_43, e_X10_sends_44, e_X10_sends_45, e_X10_sends_47, e_X10_sends_50, e_X10_sends_51, e_X10_sends_52, e_X10_sends_53, e_X10_sends_57, e_X10_sends_60, e_X10_sends_61, mO, mg_31, mr_31, mA_31, ml_31, me_31, mp_31, mg_48, mp_48, mg_24, mr_24, mA_24, ml_24, me_24, mp_24, mg_33, mr_33, mA_33, ml_33, me_33, mp_33, mg_32, mr_32, mA_32, ml_32, me_32, mp_32, mg_26, mr_26, mA_26, ml_26, me_26, mp_26, mg_27, mr_27, mA_27, ml_27, me_27, mp_27, mg_28, mr_28, mA_28, ml_28, me_28, mp_28, mg_29, mr_29, mA_29, ml_29, me_29, mp_29, mg_30, mr_30, mA_30, ml_30, me_30, mp_30, mg_25, mr_25, mA_25, ml_25, me_25, mp_25, nem, su_get, z1e0, z2e0, z3e0, z4e0, z5e0, z0e1, zme0, Nat.reduceEqDiff, not_true_eq_false, and_self, false_or, or_false, or_self,  bI_eq0, bI_eq1, i10, i20, i30, i00, ne_eq, Decidable.not_not, true_and, and_true, false_and, and_false, xrd_ref, xrd_null, xrd_rf, xid_int, xcat_int, xcat_ref, xcat_null, xcat_long, xcat_rf, xfit_int, xfit_0, xfit_1, xfit_ref, xfit_null, xfit_rf, not_false_eq_true, ↓reduceIte, z01_0, z01_1, bI_01, true_or, or_true, hn_x, hc_x, hb_x, this]
    · by_cases c : s2 24 x = -2
      · have hneg : s2 24 x < 0 := by rw [c]; decide
        have hf2 := hf.resolve_left b
        obtain ⟨p, hp, ep⟩ := inL_p q1 hf2
        have k2 := md_seek (g := g) (m0 := m0) (h := h) (lead := first) hm hx hH hP q1 hk2 c1 (by omega) (fun q => absurd hneg q) (Or.inr ⟨p, by omega, ep⟩)
        obtain ⟨r1, r2, _, r4, r5⟩ := seek_ok (x := x) (H := H) (lead := first) hP q1 c1 (fun q => absurd hneg q) (Or.inl hneg)
        have := ev_snC (g := g) (m0 := m0) (h := h) (first := first) (other := (f_seek s2 x H first L).1) hx hH hP r1 (Or.inr (r4 _ hf2)) r5 hm
        simp only [e_X10_sends_34, e_X10_sends_35, e_X10_sends_36, e_X10_sends_39, e_X10_sends_40, e_X10_sends_43, e_X10_sends_44, e_X10_sends_45, e_X10_sends_47, e_X10_sends_50, e_X10_sends_51, e_X10_sends_52, e_X10_sends_53, e_X10_sends_57, e_X10_sends_60, e_X10_sends_61, c_X10_sends_54 _ k2, mO, mg_31, mr_31, mA_31, ml_31, me_31, mp_31, mg_48, mp_48, mg_24, mr_24, mA_24, ml_24, me_24, mp_24, mg_33, mr_33, mA_33, ml_33, me_33, mp_33, mg_32, mr_32, mA_32, ml_32, me_32, mp_32, mg_26, mr_26, mA_26, ml_26, me_26, mp_26, mg_27, mr_27, mA_27, ml_27, me_27, mp_27, mg_28, mr_28, mA_28, ml_28, me_28, mp_28, mg_29, mr_29, mA_29, ml_29, me_29, mp_29, mg_30, mr_30, mA_30, ml_30, me_30, mp_30, mg_25, mr_25, mA_25, ml_25, me_25, mp_25, nem, su_get, z1e0, z2e0, z3e0, z4e0, z5e0, z0e1, zme0, Nat.reduceEqDiff, not_true_eq_false, and_self, false_or, or_false, or_self,  bI_eq0, bI_eq1, i10, i20, i30, i00, ne_eq, Decidable.not_not, true_and, and_true, false_and, and_false, xrd_ref, xrd_null, xrd_rf, xid_int, xcat_int, xcat_ref, xcat_null, xcat_long, xcat_rf, xfit_int, xfit_0, xfit_1, xfit_ref, xfit_null, xfit_rf, not_false_eq_true, ↓reduceIte, z01_0, z01_1, bI_01, true_or, or_true, hn_x, hc_x, hb_x, nL_eq q1 hP, b, c, this]
      · have := ev_snC (g := g) (m0 := m0) (h := h) (other := -1) hx hH hP q1 hf (Or.inl rfl) hm
        simp only [e_X10_sends_34, e_X10_sends_35, e_X10_sends_36, e_X10_sends_39, e_X10_sends_40, e_X10_sends_43, e_X10_sends_44, e_X10_sends_45, e_X10_sends_47, e_X10_sends_50, e_X10_sends_51, e_X10_sends_52, e_X10_sends_53, e_X10_sends_57, e_X10_sends_60, e_X10_sends_61, mO, mg_31, mr_31, mA_31, ml_31, me_31, mp_31, mg_48, mp_48, mg_24, mr_24, mA_24, ml_24, me_24, mp_24, mg_33, mr_33, mA_33, ml_33, me_33, mp_33, mg_32, mr_32, mA_32, ml_32, me_32, mp_32, mg_26, mr_26, mA_26, ml_26, me_26, mp_26, mg_27, mr_27, mA_27, ml_27, me_27, mp_27, mg_28, mr_28, mA_28, ml_28, me_28, mp_28, mg_29, mr_29, mA_29, ml_29, me_29, mp_29, mg_30, mr_30, mA_30, ml_30, me_30, mp_30, mg_25, mr_25, mA_25, ml_25, me_25, mp_25, nem, su_get, z1e0, z2e0, z3e0, z4e0, z5e0, z0e1, zme0, Nat.reduceEqDiff, not_true_eq_false, and_self, false_or, or_false, or_self,  bI_eq0, bI_eq1, i10, i20, i30, i00, ne_eq, Decidable.not_not, true_and, and_true, false_and, and_false, xrd_ref, xrd_null, xrd_rf, xid_int, xcat_int, xcat_ref, xcat_null, xcat_long, xcat_rf, xfit_int, xfit_0, xfit_1, xfit_ref, xfit_null, xfit_rf, not_false_eq_true, ↓reduceIte, z01_0, z01_1, bI_01, true_or, or_true, hn_x, hc_x, hb_x, b, c, this]
end MD
