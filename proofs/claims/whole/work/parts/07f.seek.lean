/-! ===== the class: seeking ===== -/
theorem ownS_ne5 (F j : Nat) : ownS F j ≠ (5 + 1, 0) := by
  unfold ownS
  split <;> simp
theorem ownS_ne4 (F j : Nat) : ownS F j ≠ (4 + 1, 0) := by
  unfold ownS
  split <;> simp
section CS
variable {g : Nat × Nat × Nat} {A : Nat → Nat → Nat} {z : zT} {s o s' o' : mS} {P S : Nat}
theorem cp_51 (hY : zok g A z P S) (h : ∀ F j, F ≠ 51 → s' F j = s F j) : cp A z s' o = cp A z s o := by
  refine cp_congr (fun F j e => h F j ?_) (fun _ _ _ => rfl) hY
  rintro rfl
  exact e rfl
theorem ze_as {z' : zT} {W : Nat} (h : zo g A z o P S) (hle : zle g A z z' P S) (hW : W ≤ 60) (e92 : o' 92 0 = nI W) (hc : W ≤ z'.1.2.2 5) (he : ∀ j, j < W → ∃ q, q < P ∧ o' 95 j = nI q) (ho : ∀ F j, F ≠ 63 → F ≠ 92 → F ≠ 95 → o' F j = o F j) : ze g A P S z o z' o' := by
  obtain ⟨a1, a2, a3, a4, a5⟩ := h
  have m := hle.2.2.2.2
  refine ⟨⟨hle.1, ⟨Nat.le_trans a2.1 (m 0), Nat.le_trans a2.2 (m 1)⟩, ?_, ?_, ⟨W, hW, e92, hc, he⟩⟩, hle, ho⟩
  · refine ⟨by rw [ho _ _ (by decide) (by decide) (by decide)]; exact a3.1, Nat.le_trans a3.2.1 (m 2), fun j hj => ?_⟩
    rw [ho _ _ (by decide) (by decide) (by decide)]
    exact a3.2.2 j hj
  · obtain ⟨K, k1, k2, k3, k4⟩ := a4
    exact ⟨K, k1, by rw [ho _ _ (by decide) (by decide) (by decide)]; exact k2, Nat.le_trans k3 (m 4), fun j hj => by rw [ho _ _ (by decide) (by decide) (by decide)]; exact k4 j hj⟩
theorem y_ag {x p H L : Nat} {free : Int32} (h : s 24 x < 0) : y_asks s x p H free L = ag s x p H free := by
  rw [ya_ag, if_neg (fun q => q.1 h)]
theorem lp_cseek {x H L : Nat} {free lead : Int32} (hx : x < S) (hH : H < 9600) (hle : pmP P lead) : ∀ (f k B : Nat) (s o : mS) (a6 : Option Value), k + f = L → zo g A z o P S → lOK s P L → L ≤ z.1.2.2 3 → L ≤ z.1.2.2 5 → kOK s P → s 47 0 = nI B → B + f < 2 ^ 31 → o 92 0 = nI L → (∀ j, j < L → o 95 j = s 51 j) → (∀ j, j < L → inL s L (s 51 j)) → s 24 x < 0 → ∃ o', (∀ F j, F ≠ 63 → o' F j = o F j) ∧ Ev g 90 35 [some (.ref (A 0 0)), some (.ref (A 34 x)), some (rP A lead), some (.int (nI H)), some (.int free), some (.int (nI k)), a6] [] (cp A z s o) (.inl (some (rP A (skS x H free lead L f k s).1)), cp A z (skS x H free lead L f k s).2 o') := by
  intro f
  induction f with
  | zero =>
    intro k B s o a6 hk hz hl hc3 hc5 hkk hA hB e92 e95 hli h24
    have hY := hz.1
    have h6 := hY.2.2.2.2.2.1.1
    have hLP := hl.2.1
    have k1 := cd_len (g := g) (s := s) (o := o) hY (l := 5) (by decide) (by decide)
    simp only [sz, e92] at k1
    have h2 : nI L ≤ nI k := nI_le (by omega) (by omega)
    refine ⟨o, fun _ _ _ => rfl, ?_⟩
    simp only [e_X9_seek_35, e_X9_seek_37, e_X9_seek_38, e_X9_seek_44, e_X9_seek_47, e_X9_seek_48, e_X9_seek_51, e_X9_seek_56, e_X9_seek_58, e_X9_seek_60n, e_X9_seek_60, e_X9_seek_63, e_X9_seek_65, e_X9_seek_66, e_X9_seek_69, e_X9_seek_70, e_X9_seek_71, e_X9_seek_73, e_X9_seek_75, e_X9_seek_79, e_X9_seek_82, e_X9_seek_84, e_X9_seek_85, e_X9_seek_88, e_X9_seek_91, e_X9_seek_92, cO_0 hY, cg_0_12 hY, cg_0_8 hY, cg_0_6 hY, rP_n, rS_n, xrd_rP, xrd_rS, xfit_rP, xfit_rS, xcat_rP, xcat_rS, nem, su_get, z1e0, z2e0, z3e0, z4e0, z5e0, z0e1, zme0, Nat.reduceEqDiff, not_true_eq_false, and_self, false_or, or_false, or_self,  bI_eq0, bI_eq1, i10, i20, i30, i00, ne_eq, Decidable.not_not, true_and, and_true, false_and, and_false, xrd_ref, xrd_null, xrd_rf, xid_int, xcat_int, xcat_ref, xcat_null, xcat_long, xcat_rf, xfit_int, xfit_0, xfit_1, xfit_ref, xfit_null, xfit_rf, not_false_eq_true, ↓reduceIte, z01_0, z01_1, bI_01, true_or, or_true, c_X9_seek_41 (cO_21 hY) k1, h2, skS]
  | succ f ih =>
    intro k B s o a6 hk hz hl hc3 hc5 hkk hA hB e92 e95 hli h24
    have hY := hz.1
    have h6 := hY.2.2.2.2.2.1.1
    have hLP := hl.2.1
    have k1 := cd_len (g := g) (s := s) (o := o) hY (l := 5) (by decide) (by decide)
    simp only [sz, e92] at k1
    have h2 : ¬ nI L ≤ nI k := nI_ge (by omega) (by omega)
    obtain ⟨K, hKL, hK, hKp⟩ := inL_pl (hli k (by omega))
    obtain ⟨p, hp, ep⟩ := hl.2.2.1 K hKL
    rw [hKp] at ep
    have hcp : (nI p).toNatClampNeg = p := nI_clamp (by omega)
    have hcK : (nI K).toNatClampNeg = K := nI_clamp (by omega)
    have ek := e95 k (by omega)
    rw [ep] at hK hKp ek
    have k2 := cd_at (g := g) (s := s) (o := o) (n := L) (i := k) hY (l := 5) (by decide) (by decide) e92 hc5 (by omega) (by simp only [nu, ek, hcp]; exact hp)
    simp only [nu, ek, hcp] at k2
    by_cases e : nI p = lead
    · obtain ⟨o1, r1, r2⟩ := ih (k + 1) B s o (some (.ref (A 30 p))) (by omega) hz hl hc3 hc5 hkk hA (by omega) e92 e95 hli h24
      refine ⟨o1, r1, ?_⟩
      rw [e_X9_seek_35 rfl]
      simp only [skS, ep, e, if_true]
      subst e
      rw [rP_r (by omega)] at r2 ⊢
      simp only [e_X9_seek_37, e_X9_seek_38, e_X9_seek_44, e_X9_seek_47, e_X9_seek_48, e_X9_seek_51, e_X9_seek_56, e_X9_seek_58, e_X9_seek_60n, e_X9_seek_60, e_X9_seek_63, e_X9_seek_65, e_X9_seek_66, e_X9_seek_69, e_X9_seek_70, e_X9_seek_71, e_X9_seek_73, e_X9_seek_75, e_X9_seek_79, e_X9_seek_82, e_X9_seek_84, e_X9_seek_85, e_X9_seek_88, e_X9_seek_91, e_X9_seek_92, cO_0 hY, cg_0_12 hY, cg_0_8 hY, cg_0_6 hY, rP_n, rS_n, xrd_rP, xrd_rS, xfit_rP, xfit_rS, xcat_rP, xcat_rS, nem, su_get, z1e0, z2e0, z3e0, z4e0, z5e0, z0e1, zme0, Nat.reduceEqDiff, not_true_eq_false, and_self, false_or, or_false, or_self,  bI_eq0, bI_eq1, i10, i20, i30, i00, ne_eq, Decidable.not_not, true_and, and_true, false_and, and_false, xrd_ref, xrd_null, xrd_rf, xid_int, xcat_int, xcat_ref, xcat_null, xcat_long, xcat_rf, xfit_int, xfit_0, xfit_1, xfit_ref, xfit_null, xfit_rf, not_false_eq_true, ↓reduceIte, z01_0, z01_1, bI_01, true_or, or_true, c_X9_seek_41 (cO_21 hY) k1, c_X9_seek_53 (cO_21 hY) k2, h2, nI_1]
      exact r2
    · have nr : ¬ (Value.ref (A 30 p) = rP A lead) := by
        rcases hle with q | ⟨q, hq, q2⟩
        · rw [q, rP_n]; exact fun w => by cases w
        · rw [q2, rP_r (by omega)]
          intro w
          have := (A_inj hY hp hq).mp (Value.ref.inj w)
          exact e (by rw [this, q2])
      have ka := cd_agrees (g := g) (s := s) (o := o) (x := x) (p := p) (H := H) (L := L) (K := K) (free := free) (a5 := none) hY hl hc3 hp hx hH (hkk p hp) hA (by omega) (fun _ => ⟨hK, hKL, hKp⟩)
      simp only [skS, ep, e, if_false, hcp, hcK, hK, y_ag h24]
      by_cases d : ag s x p H free = 0
      · refine ⟨agO o (ag s x p H free), agO_o o _, ?_⟩
        rw [d] at ka ⊢
        rw [e_X9_seek_35 rfl]
        simp only [e_X9_seek_37, e_X9_seek_38, e_X9_seek_44, e_X9_seek_47, e_X9_seek_48, e_X9_seek_51, e_X9_seek_56, e_X9_seek_58, e_X9_seek_60n, e_X9_seek_60, e_X9_seek_63, e_X9_seek_65, e_X9_seek_66, e_X9_seek_69, e_X9_seek_70, e_X9_seek_71, e_X9_seek_73, e_X9_seek_75, e_X9_seek_79, e_X9_seek_82, e_X9_seek_84, e_X9_seek_85, e_X9_seek_88, e_X9_seek_91, e_X9_seek_92, cO_0 hY, cg_0_12 hY, cg_0_8 hY, cg_0_6 hY, rP_n, rS_n, xrd_rP, xrd_rS, xfit_rP, xfit_rS, xcat_rP, xcat_rS, nem, su_get, z1e0, z2e0, z3e0, z4e0, z5e0, z0e1, zme0, Nat.reduceEqDiff, not_true_eq_false, and_self, false_or, or_false, or_self,  bI_eq0, bI_eq1, i10, i20, i30, i00, ne_eq, Decidable.not_not, true_and, and_true, false_and, and_false, xrd_ref, xrd_null, xrd_rf, xid_int, xcat_int, xcat_ref, xcat_null, xcat_long, xcat_rf, xfit_int, xfit_0, xfit_1, xfit_ref, xfit_null, xfit_rf, not_false_eq_true, ↓reduceIte, z01_0, z01_1, bI_01, true_or, or_true, c_X9_seek_41 (cO_21 hY) k1, c_X9_seek_53 (cO_21 hY) k2, c_X9_seek_76 _ _ (cO_0 hY) ka, h2, nr, rP_r (show p < 2 ^ 31 by omega)]
      · have hw : ag s x p H free = 4 → K < L ∧ s 17 K = nI p := fun _ => ⟨hKL, hKp⟩
        obtain ⟨o1, r1, r2⟩ := ih (k + 1) (B + 1) (f_asks s x p (ag s x p H free) L K) (agO o (ag s x p H free)) (some (.ref (A 30 p))) (by omega) (ze_63 hz (agO_o o _)).1 (fa_lOK hl hp hw) hc3 hc5 (fun q hq => by rw [fa_o _ _ _ _ _ _ (by omega)]; exact hkk q hq) (by rw [fa_47, hA, nI_1]) (by omega) (by rw [agO_o _ _ _ _ (by decide)]; exact e92) (fun j hj => by rw [agO_o _ _ _ _ (by decide), fa_o _ _ _ _ _ _ (by omega)]; exact e95 j hj) (fun j hj => by rw [fa_o _ _ _ _ _ _ (by omega)]; exact fa_inL hw (hli j hj)) (by rw [fa_o _ _ _ _ _ _ (by omega)]; exact h24)
        refine ⟨o1, fun F j q => (r1 F j q).trans (agO_o o _ F j q), ?_⟩
        simp only [d, if_false]
        rw [e_X9_seek_35 rfl]
        simp only [e_X9_seek_37, e_X9_seek_38, e_X9_seek_44, e_X9_seek_47, e_X9_seek_48, e_X9_seek_51, e_X9_seek_56, e_X9_seek_58, e_X9_seek_60n, e_X9_seek_60, e_X9_seek_63, e_X9_seek_65, e_X9_seek_66, e_X9_seek_69, e_X9_seek_70, e_X9_seek_71, e_X9_seek_73, e_X9_seek_75, e_X9_seek_79, e_X9_seek_82, e_X9_seek_84, e_X9_seek_85, e_X9_seek_88, e_X9_seek_91, e_X9_seek_92, cO_0 hY, cg_0_12 hY, cg_0_8 hY, cg_0_6 hY, rP_n, rS_n, xrd_rP, xrd_rS, xfit_rP, xfit_rS, xcat_rP, xcat_rS, nem, su_get, z1e0, z2e0, z3e0, z4e0, z5e0, z0e1, zme0, Nat.reduceEqDiff, not_true_eq_false, and_self, false_or, or_false, or_self,  bI_eq0, bI_eq1, i10, i20, i30, i00, ne_eq, Decidable.not_not, true_and, and_true, false_and, and_false, xrd_ref, xrd_null, xrd_rf, xid_int, xcat_int, xcat_ref, xcat_null, xcat_long, xcat_rf, xfit_int, xfit_0, xfit_1, xfit_ref, xfit_null, xfit_rf, not_false_eq_true, ↓reduceIte, z01_0, z01_1, bI_01, true_or, or_true, c_X9_seek_41 (cO_21 hY) k1, c_X9_seek_53 (cO_21 hY) k2, c_X9_seek_76 _ _ (cO_0 hY) ka, h2, nr, d, nI_1]
        exact r2
theorem cd_seek {x H L B : Nat} {lead : Int32} {a5 a6 : Option Value} (hz : zo g A z o P S) (hl : lOK s P L) (hc : L ≤ z.1.2.2 3) (hx : x < S) (hH : H < 9600) (hkk : kOK s P) (hA : s 47 0 = nI B) (hB : B + 60 < 2 ^ 31) (h24 : s 24 x < 0) (hle : pmP P lead) : ∃ z' o', ze g A P S z o z' o' ∧ Ev g 90 0 [some (.ref (A 0 0)), some (.ref (A 34 x)), some (rP A lead), some (.int (nI H)), none, a5, a6] [] (cp A z s o) (.inl (some (rP A (f_seek s x H lead L).1)), cp A z' (f_seek s x H lead L).2 o') := by
  have hY := hz.1
  have h6 := hY.2.2.2.2.2.1.1
  have hLP := hl.2.1
  have e1 : ∀ {out : xR}, Ev g 90 0 [some (.ref (A 0 0)), some (.ref (A 34 x)), some (rP A lead), some (.int (nI H)), none, a5, a6] [] (cp A z s o) out = Ev g 90 21 [some (.ref (A 0 0)), some (.ref (A 34 x)), some (rP A lead), some (.int (nI H)), some (.int (frS s x lead)), a5, a6] [] (cp A z s o) out := by
    intro out
    unfold frS
    rcases hle with e | ⟨q, hq, e⟩
    · subst e
      simp only [e_X9_seek_0, e_X9_seek_1, e_X9_seek_4, e_X9_seek_6, e_X9_seek_7n, e_X9_seek_7, e_X9_seek_10, e_X9_seek_11, e_X9_seek_15, e_X9_seek_18, cO_0 hY, cg_0_12 hY, cg_0_8 hY, cg_0_6 hY, rP_n, rS_n, xrd_rP, xrd_rS, xfit_rP, xfit_rS, xcat_rP, xcat_rS, nem, su_get, z1e0, z2e0, z3e0, z4e0, z5e0, z0e1, zme0, Nat.reduceEqDiff, not_true_eq_false, and_self, false_or, or_false, or_self,  bI_eq0, bI_eq1, i10, i20, i30, i00, ne_eq, Decidable.not_not, true_and, and_true, false_and, and_false, xrd_ref, xrd_null, xrd_rf, xid_int, xcat_int, xcat_ref, xcat_null, xcat_long, xcat_rf, xfit_int, xfit_0, xfit_1, xfit_ref, xfit_null, xfit_rf, not_false_eq_true, ↓reduceIte, z01_0, z01_1, bI_01, true_or, or_true, Int32.sub_zero]
    · subst e
      have n1 : ¬ nI q = -1 := nI_nm1 (by omega)
      have k1 := cd_needs (g := g) (s := s) (o := o) hY hq hx
      have cq : (nI q).toNatClampNeg = q := nI_clamp (by omega)
      rw [rP_r (by omega)]
      by_cases a : ¬ s 20 x = 0 ∧ s 8 q = 0
      · simp only [e_X9_seek_0, e_X9_seek_1, e_X9_seek_4, e_X9_seek_6, e_X9_seek_7n, e_X9_seek_7, e_X9_seek_10, e_X9_seek_11, e_X9_seek_15, e_X9_seek_18, cO_0 hY, cg_0_12 hY, cg_0_8 hY, cg_0_6 hY, rP_n, rS_n, xrd_rP, xrd_rS, xfit_rP, xfit_rS, xcat_rP, xcat_rS, nem, su_get, z1e0, z2e0, z3e0, z4e0, z5e0, z0e1, zme0, Nat.reduceEqDiff, not_true_eq_false, and_self, false_or, or_false, or_self,  bI_eq0, bI_eq1, i10, i20, i30, i00, ne_eq, Decidable.not_not, true_and, and_true, false_and, and_false, xrd_ref, xrd_null, xrd_rf, xid_int, xcat_int, xcat_ref, xcat_null, xcat_long, xcat_rf, xfit_int, xfit_0, xfit_1, xfit_ref, xfit_null, xfit_rf, not_false_eq_true, ↓reduceIte, z01_0, z01_1, bI_01, true_or, or_true, c_X9_seek_12 _ _ k1, n1, cq, a, Int32.sub_eq_add_neg]
      · simp only [e_X9_seek_0, e_X9_seek_1, e_X9_seek_4, e_X9_seek_6, e_X9_seek_7n, e_X9_seek_7, e_X9_seek_10, e_X9_seek_11, e_X9_seek_15, e_X9_seek_18, cO_0 hY, cg_0_12 hY, cg_0_8 hY, cg_0_6 hY, rP_n, rS_n, xrd_rP, xrd_rS, xfit_rP, xfit_rS, xcat_rP, xcat_rS, nem, su_get, z1e0, z2e0, z3e0, z4e0, z5e0, z0e1, zme0, Nat.reduceEqDiff, not_true_eq_false, and_self, false_or, or_false, or_self,  bI_eq0, bI_eq1, i10, i20, i30, i00, ne_eq, Decidable.not_not, true_and, and_true, false_and, and_false, xrd_ref, xrd_null, xrd_rf, xid_int, xcat_int, xcat_ref, xcat_null, xcat_long, xcat_rf, xfit_int, xfit_0, xfit_1, xfit_ref, xfit_null, xfit_rf, not_false_eq_true, ↓reduceIte, z01_0, z01_1, bI_01, true_or, or_true, c_X9_seek_12 _ _ k1, n1, cq, a, Int32.sub_zero]
  unfold f_seek
  rw [if_pos h24]
  generalize frS s x lead = free at e1
  obtain ⟨W, w1, w2, w3, w4⟩ := hz.2.2.2.2
  obtain ⟨z', s', o', q1, q2, q3, q4, q5, q6⟩ := cd_copy (g := g) (A := A) (s := s) (o := o) (l := 5) (l2 := 3) (n := L) (n1 := W) (N := fun j => (s 17 j).toNatClampNeg) (a2 := none) (by decide) (by decide) (by decide) (by decide) (by decide) (by omega) (fun j hj => by
    obtain ⟨p, hp, e⟩ := hl.2.2.1 j hj
    simp only [e, nI_clamp (show p < 2 ^ 31 by omega)]
    exact hp) hY hl.1 hc (fun j hj => by
    obtain ⟨p, hp, e⟩ := hl.2.2.1 j hj
    simp only [raw, e, nI_clamp (show p < 2 ^ 31 by omega)]) w2 w3
  have es : s' = s := funext fun F => funext fun j => q3.1 F j (ownS_ne5 F j)
  subst es
  have eo : ∀ F j, F ≠ 63 → F ≠ 92 → F ≠ 95 → o' F j = o F j := by
    intro F j a b c
    refine q3.2 F j ?_
    unfold ownO
    split <;> simp_all
  have e95 : ∀ j, j < L → o' 95 j = s' 17 j := by
    intro j hj
    obtain ⟨p, hp, e⟩ := hl.2.2.1 j hj
    have := q5 j hj
    simp only [raw, e, nI_clamp (show p < 2 ^ 31 by omega)] at this
    rw [e]; exact this
  have zz := ze_as hz q1 (by omega) q4 q2 (fun j hj => by rw [e95 j hj]; exact hl.2.2.1 j hj) eo
  obtain ⟨o1, r1, r2⟩ := lp_cseek (g := g) (A := A) (z := z') (P := P) (S := S) (x := x) (H := H) (L := L) (free := free) (lead := lead) hx hH hle L 0 B (lnS L 0 s') o' a6 (by omega) zz.1 (lOK_o hl (fun j => lnS_o _ _ _ (by decide) _) (lnS_o _ _ _ (by decide) _)) (Nat.le_trans hc (q1.2.2.2.2 3)) q2 (fun q hq => by rw [lnS_o _ _ _ (by decide)]; exact hkk q hq) (by rw [lnS_o _ _ _ (by decide)]; exact hA) (by omega) q4 (fun j hj => by rw [lnS_51, if_pos (by omega)]; exact e95 j hj) (fun j hj => by
      rw [lnS_51, if_pos (by omega)]
      exact ⟨j, hj, lnS_o _ _ _ (by decide) _⟩) (by rw [lnS_o _ _ _ (by decide)]; exact h24)
  rw [nI_0, cp_51 (s := s') zz.1.1 (fun F j h => lnS_o _ _ _ h j)] at r2
  refine ⟨z', o1, ze_trans zz (ze_63 zz.1 r1), ?_⟩
  rw [e1]
  simp only [e_X9_seek_21, e_X9_seek_22, e_X9_seek_25, e_X9_seek_26, e_X9_seek_32, e_X9_seek_33, cO_0 hY, cg_0_12 hY, cg_0_8 hY, cg_0_6 hY, rP_n, rS_n, xrd_rP, xrd_rS, xfit_rP, xfit_rS, xcat_rP, xcat_rS, nem, su_get, z1e0, z2e0, z3e0, z4e0, z5e0, z0e1, zme0, Nat.reduceEqDiff, not_true_eq_false, and_self, false_or, or_false, or_self,  bI_eq0, bI_eq1, i10, i20, i30, i00, ne_eq, Decidable.not_not, true_and, and_true, false_and, and_false, xrd_ref, xrd_null, xrd_rf, xid_int, xcat_int, xcat_ref, xcat_null, xcat_long, xcat_rf, xfit_int, xfit_0, xfit_1, xfit_ref, xfit_null, xfit_rf, not_false_eq_true, ↓reduceIte, z01_0, z01_1, bI_01, true_or, or_true, c_X9_seek_29 _ (cO_21 hY) q6]
  exact r2
end CS
