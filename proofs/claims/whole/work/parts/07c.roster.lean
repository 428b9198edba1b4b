/-! ===== the class: the list and its copies ===== -/
section CR
variable {g : Nat × Nat × Nat} {A : Nat → Nat → Nat} {z : zT} {s o s' o' : mS} {P S l : Nat}
theorem ro_O (hY : zok g A z P S) (h3 : 3 ≤ l) (h6 : l < 6) : xO (cp A z s o) (A (l + 16) 0) 6 = true := by
  match l, h3, h6 with
  | 3, _, _ => exact cO_19 hY
  | 4, _, _ => exact cO_20 hY
  | 5, _, _ => exact cO_21 hY
theorem ro_g (hY : zok g A z P S) (h3 : 3 ≤ l) (h6 : l < 6) : xg (cp A z s o) (A (l + 16) 0) 0 = .ref (A (l + 1) 0) := by
  match l, h3, h6 with
  | 3, _, _ => exact cg_19_0 hY
  | 4, _, _ => exact cg_20_0 hY
  | 5, _, _ => exact cg_21_0 hY
theorem lO (hY : zok g A z P S) (h6 : l < 6) : xO (cp A z s o) (A (l + 1) 0) 0 = true := by
  have c := cp_ob (s := s) (o := o) hY h6
  simp [xO, c]
theorem lk3 (h3 : 3 ≤ l) : lk l = 30 := by
  unfold lk
  split <;> first | omega | rfl
theorem cd_len (hY : zok g A z P S) (h3 : 3 ≤ l) (h6 : l < 6) : Ev g 35 0 [some (.ref (A (l + 16) 0))] [] (cp A z s o) (.inl (some (.int (sz s o l))), cp A z s o) := by
  simp only [e_X5_length_0, e_X5_length_1, e_X5_length_7, nem, su_get, z1e0, z2e0, z3e0, z4e0, z5e0, z0e1, zme0, Nat.reduceEqDiff, not_true_eq_false, and_self, false_or, or_false, or_self,  bI_eq0, bI_eq1, i10, i20, i30, i00, ne_eq, Decidable.not_not, true_and, and_true, false_and, and_false, xrd_ref, xrd_null, xrd_rf, xid_int, xcat_int, xcat_ref, xcat_null, xcat_long, xcat_rf, xfit_int, xfit_0, xfit_1, xfit_ref, xfit_null, xfit_rf, not_false_eq_true, ↓reduceIte, z01_0, z01_1, bI_01, true_or, or_true, ro_O hY h3 h6, ro_g hY h3 h6, c_X5_length_4 (lO hY h6) (cl_size hY h6)]
theorem cd_at {n i : Nat} (hY : zok g A z P S) (h3 : 3 ≤ l) (h6 : l < 6) (hn : sz s o l = nI n) (hc : n ≤ z.1.2.2 l) (hi : i < n) (hp : nu s o l i < P) : Ev g 36 0 [some (.ref (A (l + 16) 0)), some (.int (nI i))] [] (cp A z s o) (.inl (some (.ref (A 30 (nu s o l i)))), cp A z s o) := by
  have h7 := hY.2.2.2.2.1 l h6
  have k1 := cl_size (s := s) (o := o) hY h6
  have k2 := cl_get (s := s) (o := o) hY h6 hn hc hi
  rw [lk3 h3] at k2
  rw [hn] at k1
  have a1 : ¬ nI i < 0 := nI_pos (by omega)
  have a2 : nI i < nI n := nI_lt hi (by omega)
  simp only [e_X5_at_0, e_X5_at_1, e_X5_at_4, e_X5_at_5, e_X5_at_6, e_X5_at_12, e_X5_at_15, e_X5_at_16, e_X5_at_19, e_X5_at_20, e_X5_at_23, e_X5_at_27n, e_X5_at_27, e_X5_at_30, nem, su_get, z1e0, z2e0, z3e0, z4e0, z5e0, z0e1, zme0, Nat.reduceEqDiff, not_true_eq_false, and_self, false_or, or_false, or_self,  bI_eq0, bI_eq1, i10, i20, i30, i00, ne_eq, Decidable.not_not, true_and, and_true, false_and, and_false, xrd_ref, xrd_null, xrd_rf, xid_int, xcat_int, xcat_ref, xcat_null, xcat_long, xcat_rf, xfit_int, xfit_0, xfit_1, xfit_ref, xfit_null, xfit_rf, not_false_eq_true, ↓reduceIte, z01_0, z01_1, bI_01, true_or, or_true, ro_O hY h3 h6, ro_g hY h3 h6, c_X5_at_9 (lO hY h6) k1, c_X5_at_24 (lO hY h6) k2, a1, a2, cO_30 hY, hp]
theorem cd_atN {v : Int32} (hY : zok g A z P S) (h3 : 3 ≤ l) (h6 : l < 6) (hv : v < 0 ∨ ¬ v < sz s o l) : Ev g 36 0 [some (.ref (A (l + 16) 0)), some (.int v)] [] (cp A z s o) (.inl (some .null), cp A z s o) := by
  have k1 := cl_size (s := s) (o := o) hY h6
  by_cases a : v < 0
  · simp only [e_X5_at_0, e_X5_at_1, e_X5_at_4, e_X5_at_5, e_X5_at_6, e_X5_at_12, e_X5_at_15, e_X5_at_16, e_X5_at_19, e_X5_at_20, e_X5_at_23, e_X5_at_27n, e_X5_at_27, e_X5_at_30, nem, su_get, z1e0, z2e0, z3e0, z4e0, z5e0, z0e1, zme0, Nat.reduceEqDiff, not_true_eq_false, and_self, false_or, or_false, or_self,  bI_eq0, bI_eq1, i10, i20, i30, i00, ne_eq, Decidable.not_not, true_and, and_true, false_and, and_false, xrd_ref, xrd_null, xrd_rf, xid_int, xcat_int, xcat_ref, xcat_null, xcat_long, xcat_rf, xfit_int, xfit_0, xfit_1, xfit_ref, xfit_null, xfit_rf, not_false_eq_true, ↓reduceIte, z01_0, z01_1, bI_01, true_or, or_true, a]
  · have b : ¬ v < sz s o l := hv.resolve_left a
    simp only [e_X5_at_0, e_X5_at_1, e_X5_at_4, e_X5_at_5, e_X5_at_6, e_X5_at_12, e_X5_at_15, e_X5_at_16, e_X5_at_19, e_X5_at_20, e_X5_at_23, e_X5_at_27n, e_X5_at_27, e_X5_at_30, nem, su_get, z1e0, z2e0, z3e0, z4e0, z5e0, z0e1, zme0, Nat.reduceEqDiff, not_true_eq_false, and_self, false_or, or_false, or_self,  bI_eq0, bI_eq1, i10, i20, i30, i00, ne_eq, Decidable.not_not, true_and, and_true, false_and, and_false, xrd_ref, xrd_null, xrd_rf, xid_int, xcat_int, xcat_ref, xcat_null, xcat_long, xcat_rf, xfit_int, xfit_0, xfit_1, xfit_ref, xfit_null, xfit_rf, not_false_eq_true, ↓reduceIte, z01_0, z01_1, bI_01, true_or, or_true, ro_O hY h3 h6, ro_g hY h3 h6, c_X5_at_9 (lO hY h6) k1, a, b]
/-- different roles, different addresses -/
theorem A_inj (hY : zok g A z P S) {p q : Nat} (hp : p < P) (hq : q < P) : A 30 p = A 30 q ↔ p = q := by
  constructor
  · intro e
    have h1 := (hY.1 30 p (lvP 30 (by decide) (by decide) hp)).1
    have h2 := (hY.1 30 q (lvP 30 (by decide) (by decide) hq)).1
    rw [ad_o (by decide)] at h1 h2
    rw [e, h2] at h1
    exact (Prod.mk.inj (Option.some.inj h1)).2.symm
  · intro e; rw [e]
theorem lp_cplace {p L : Nat} (hY : zok g A z P S) (hl : lOK s P L) (hc : L ≤ z.1.2.2 3) (hp : p < P) : ∀ f i, i + f = L → Ev g 37 2 [some (.ref (A 19 0)), some (.ref (A 30 p)), some (.int (nI i))] [] (cp A z s o) (.inl (some (.int (pl s (nI p) f i))), cp A z s o) := by
  have h6 := hY.2.2.2.2.2.1.1
  have hL := hl.1
  have hLP := hl.2.1
  have k1 := cl_size (s := s) (o := o) hY (l := 3) (by decide)
  simp only [sz, hL] at k1
  intro f
  induction f with
  | zero =>
    intro i hi
    have h2 : nI L ≤ nI i := nI_le (by omega) (by omega)
    simp only [e_X5_placeOf_0, e_X5_placeOf_1, e_X5_placeOf_2, e_X5_placeOf_3, e_X5_placeOf_4, e_X5_placeOf_10, e_X5_placeOf_13, e_X5_placeOf_14, e_X5_placeOf_17, e_X5_placeOf_21, e_X5_placeOf_22, e_X5_placeOf_25, e_X5_placeOf_26, e_X5_placeOf_27, e_X5_placeOf_30, e_X5_placeOf_33, e_X5_placeOf_34, cO_19 hY, cg_19_0 hY, cO_20 hY, cg_20_0 hY, cO_21 hY, cg_21_0 hY, rP_n, rS_n, xrd_rP, xrd_rS, xfit_rP, xfit_rS, xcat_rP, xcat_rS, nem, su_get, z1e0, z2e0, z3e0, z4e0, z5e0, z0e1, zme0, Nat.reduceEqDiff, not_true_eq_false, and_self, false_or, or_false, or_self,  bI_eq0, bI_eq1, i10, i20, i30, i00, ne_eq, Decidable.not_not, true_and, and_true, false_and, and_false, xrd_ref, xrd_null, xrd_rf, xid_int, xcat_int, xcat_ref, xcat_null, xcat_long, xcat_rf, xfit_int, xfit_0, xfit_1, xfit_ref, xfit_null, xfit_rf, not_false_eq_true, ↓reduceIte, z01_0, z01_1, bI_01, true_or, or_true, c_X5_placeOf_7 (cO_4 hY) k1, h2, pl]
  | succ f ih =>
    intro i hi
    have h2 : ¬ nI L ≤ nI i := nI_ge (by omega) (by omega)
    obtain ⟨q, hq, eq⟩ := hl.2.2.1 i (by omega)
    have k2 := cl_get (s := s) (o := o) hY (l := 3) (n := L) (i := i) (by decide) hL hc (by omega)
    simp only [nu, lk, eq, nI_clamp (show q < 2 ^ 31 by omega)] at k2
    rw [e_X5_placeOf_2 rfl]
    by_cases e : q = p
    · subst e
      simp only [e_X5_placeOf_0, e_X5_placeOf_1, e_X5_placeOf_3, e_X5_placeOf_4, e_X5_placeOf_10, e_X5_placeOf_13, e_X5_placeOf_14, e_X5_placeOf_17, e_X5_placeOf_21, e_X5_placeOf_22, e_X5_placeOf_25, e_X5_placeOf_26, e_X5_placeOf_27, e_X5_placeOf_30, e_X5_placeOf_33, e_X5_placeOf_34, cO_19 hY, cg_19_0 hY, cO_20 hY, cg_20_0 hY, cO_21 hY, cg_21_0 hY, rP_n, rS_n, xrd_rP, xrd_rS, xfit_rP, xfit_rS, xcat_rP, xcat_rS, nem, su_get, z1e0, z2e0, z3e0, z4e0, z5e0, z0e1, zme0, Nat.reduceEqDiff, not_true_eq_false, and_self, false_or, or_false, or_self,  bI_eq0, bI_eq1, i10, i20, i30, i00, ne_eq, Decidable.not_not, true_and, and_true, false_and, and_false, xrd_ref, xrd_null, xrd_rf, xid_int, xcat_int, xcat_ref, xcat_null, xcat_long, xcat_rf, xfit_int, xfit_0, xfit_1, xfit_ref, xfit_null, xfit_rf, not_false_eq_true, ↓reduceIte, z01_0, z01_1, bI_01, true_or, or_true, c_X5_placeOf_7 (cO_4 hY) k1, c_X5_placeOf_18 (cO_4 hY) k2, h2, pl, eq]
    · have n1 : ¬ (Value.ref (A 30 q) = Value.ref (A 30 p)) := fun x => e ((A_inj hY hq hp).mp (Value.ref.inj x))
      have n2 : ¬ nI q = nI p := fun x => e ((nI_eq (by omega) (by omega)).mp x)
      simp only [e_X5_placeOf_0, e_X5_placeOf_1, e_X5_placeOf_3, e_X5_placeOf_4, e_X5_placeOf_10, e_X5_placeOf_13, e_X5_placeOf_14, e_X5_placeOf_17, e_X5_placeOf_21, e_X5_placeOf_22, e_X5_placeOf_25, e_X5_placeOf_26, e_X5_placeOf_27, e_X5_placeOf_30, e_X5_placeOf_33, e_X5_placeOf_34, cO_19 hY, cg_19_0 hY, cO_20 hY, cg_20_0 hY, cO_21 hY, cg_21_0 hY, rP_n, rS_n, xrd_rP, xrd_rS, xfit_rP, xfit_rS, xcat_rP, xcat_rS, nem, su_get, z1e0, z2e0, z3e0, z4e0, z5e0, z0e1, zme0, Nat.reduceEqDiff, not_true_eq_false, and_self, false_or, or_false, or_self,  bI_eq0, bI_eq1, i10, i20, i30, i00, ne_eq, Decidable.not_not, true_and, and_true, false_and, and_false, xrd_ref, xrd_null, xrd_rf, xid_int, xcat_int, xcat_ref, xcat_null, xcat_long, xcat_rf, xfit_int, xfit_0, xfit_1, xfit_ref, xfit_null, xfit_rf, not_false_eq_true, ↓reduceIte, z01_0, z01_1, bI_01, true_or, or_true, c_X5_placeOf_7 (cO_4 hY) k1, c_X5_placeOf_18 (cO_4 hY) k2, h2, pl, eq, n1, n2, nI_1]
      exact ih (i + 1) (by omega)
theorem cd_placeOf {p L : Nat} {a2 : Option Value} (hY : zok g A z P S) (hl : lOK s P L) (hc : L ≤ z.1.2.2 3) (hp : p < P) : Ev g 37 0 [some (.ref (A 19 0)), some (.ref (A 30 p)), a2] [] (cp A z s o) (.inl (some (.int (pl s (nI p) L 0))), cp A z s o) := by
  have := lp_cplace (g := g) (s := s) (o := o) hY hl hc hp L 0 (by omega)
  rw [nI_0] at this
  simp only [e_X5_placeOf_0, e_X5_placeOf_1, nem, su_get, z1e0, z2e0, z3e0, z4e0, z5e0, z0e1, zme0, Nat.reduceEqDiff, not_true_eq_false, and_self, false_or, or_false, or_self,  bI_eq0, bI_eq1, i10, i20, i30, i00, ne_eq, Decidable.not_not, true_and, and_true, false_and, and_false, xrd_ref, xrd_null, xrd_rf, xid_int, xcat_int, xcat_ref, xcat_null, xcat_long, xcat_rf, xfit_int, xfit_0, xfit_1, xfit_ref, xfit_null, xfit_rf, not_false_eq_true, ↓reduceIte, z01_0, z01_1, bI_01, true_or, or_true]
  exact this
theorem lch_3 (h : ∀ F j, F ≠ 17 → F ≠ 18 → s' F j = s F j) (ho : ∀ F j, F ≠ 63 → o' F j = o F j) (h63 : ∀ j, j ≠ 3 → o' 63 j = o 63 j) : lch 3 s o s' o' := by
  refine ⟨fun F j e => h F j ?_ ?_, fun F j e => ?_⟩
  · rintro rfl; exact e rfl
  · rintro rfl; exact e rfl
  · by_cases x : F = 63
    · subst x
      refine h63 j ?_
      rintro rfl
      exact e rfl
    · exact ho F j x
def mc (o : mS) (l : Nat) : mS := su o 63 l (o 63 l + 1)
theorem mc_o (o : mS) (l : Nat) {F : Nat} (h : F ≠ 63) (j : Nat) : mc o l F j = o F j := by simp [mc, su, h]
theorem mc_63 (o : mS) (l : Nat) : mc o l 63 l = o 63 l + 1 := by simp [mc, su]
theorem mc_63o (o : mS) (l : Nat) {j : Nat} (h : j ≠ l) : mc o l 63 j = o 63 j := by simp [mc, su, h]
theorem l3_el {L : Nat} (hl : lOK s P L) (hP : P ≤ 60) : ∀ j, j < L → lv z P S (lk 3) (nu s o 3 j) := by
  intro j hj
  obtain ⟨p, hp, e⟩ := hl.2.2.1 j hj
  simp only [nu, lk, e, nI_clamp (show p < 2 ^ 31 by omega)]
  exact lvP 30 (by decide) (by decide) hp
theorem cd_takeOut {p L K : Nat} {a2 : Option Value} (hY : zok g A z P S) (hl : lOK s P L) (hc : L ≤ z.1.2.2 3) (hp : p < P) (hK : pl s (nI p) L 0 = nI K) (hKL : K < L) : Ev g 40 0 [some (.ref (A 19 0)), some (.ref (A 30 p)), a2] [] (cp A z s o) (.inl none, cp A z (su (tkS s (L - 1 - K) K) 18 0 (nI (L - 1))) (mc o 3)) := by
  have h6 := hY.2.2.2.2.2.1.1
  have hL := hl.1
  have hLP := hl.2.1
  have k0 := cd_placeOf (g := g) (s := s) (o := o) (a2 := none) hY hl hc hp
  rw [hK] at k0
  have k1 := cl_size (s := s) (o := o) hY (l := 3) (by decide)
  simp only [sz, hL] at k1
  have a1 : ¬ nI K < 0 := nI_pos (by omega)
  have a2 : ¬ nI L ≤ nI K := nI_ge hKL (by omega)
  have k2 := cl_remove (g := g) (s := s) (o := o) (s' := su (tkS s (L - 1 - K) K) 18 0 (nI (L - 1))) (o' := mc o 3) hY (l := 3) (n := L) (i := K) (by decide) hL hc hKL (l3_el hl h6) (lch_3 (fun F j h1 h2 => by rw [su_other _ _ h2, tkS_o _ h1]) (fun F j h => mc_o o 3 h j) (fun j h => mc_63o o 3 h)) (mc_63 o 3) (by simp [sz, su]) (fun j hj => by
    simp only [nu]
    rw [su_other _ _ (by decide), tkS_17]
    by_cases x : j < K
    · rw [if_neg (by omega), if_pos x]
    · rw [if_pos (by omega), if_neg x])
  simp only [e_X5_takeOut_0, e_X5_takeOut_1, e_X5_takeOut_5, e_X5_takeOut_6, e_X5_takeOut_7, e_X5_takeOut_10, e_X5_takeOut_11, e_X5_takeOut_12, e_X5_takeOut_18, e_X5_takeOut_21, e_X5_takeOut_22, e_X5_takeOut_25, e_X5_takeOut_29, e_X5_takeOut_30, cO_19 hY, cg_19_0 hY, cO_20 hY, cg_20_0 hY, cO_21 hY, cg_21_0 hY, rP_n, rS_n, xrd_rP, xrd_rS, xfit_rP, xfit_rS, xcat_rP, xcat_rS, nem, su_get, z1e0, z2e0, z3e0, z4e0, z5e0, z0e1, zme0, Nat.reduceEqDiff, not_true_eq_false, and_self, false_or, or_false, or_self,  bI_eq0, bI_eq1, i10, i20, i30, i00, ne_eq, Decidable.not_not, true_and, and_true, false_and, and_false, xrd_ref, xrd_null, xrd_rf, xid_int, xcat_int, xcat_ref, xcat_null, xcat_long, xcat_rf, xfit_int, xfit_0, xfit_1, xfit_ref, xfit_null, xfit_rf, not_false_eq_true, ↓reduceIte, z01_0, z01_1, bI_01, true_or, or_true, c_X5_takeOut_2 _ _ k0, c_X5_takeOut_15 (cO_4 hY) k1, c_X5_takeOut_26 (cO_4 hY) k2, a1, a2]
theorem cl_addR (hY : zok g A z P S) (hl : l < 6) {n x : Nat} (hn : sz s o l = nI n) (hcap : n < z.1.2.2 l) (hx : lv z P S (lk l) x) (hch : lch l s o s' o') (h1 : o' 63 l = o 63 l + 1) (h2 : sz s' o' l = nI (n + 1)) (h3 : ∀ j, j < n → nu s' o' l j = nu s o l j) (h5 : nu s' o' l n = x) : Ev g 7 0 [some (.ref (A (l + 1) 0)), some (.ref (A (lk l) x))] [] (cp A z s o) (.inl (some (.int 1)), cp A z s' o') := by
  have h7 := hY.2.2.2.2.1 l hl
  have hc : z.1.2.2 l ≠ 0 := by omega
  have ha := zok_ob hY hl
  have e := rwf_app (A := A) hn (by omega) h2 h3 h5
  have okx := cp_ok (s := s) (o := o) hY (lk_or l) hx
  have ne := zok_ne hY hl hc
  have er := zok_er hY hl hc
  have ero := cp_erok (s := s) (o := o) hY hl hc
  have k := jl_add (g := g) (H := cp A z s o) (a := A (l + 1) 0) (e := z.1.2.1 l) (n := n) (c := z.1.2.2 l) (m := o 63 l) (v := .ref (A (lk l) x)) (f := rwf A s o l) ne (by omega) (by omega) ha.2.1 er.2.1 ero okx rfl
  rw [← hn, ← cp_lp hY hl hc, lp_cp hY hl hc hch h1 h2 e] at k
  exact k
theorem cd_moveToEnd {p L K : Nat} {a2 : Option Value} (hY : zok g A z P S) (hl : lOK s P L) (hc : L ≤ z.1.2.2 3) (hp : p < P) (hK : pl s (nI p) L 0 = nI K) (hKL : K < L) (hKp : s 17 K = nI p) : Ev g 41 0 [some (.ref (A 19 0)), some (.ref (A 30 p)), a2] [] (cp A z s o) (.inl none, cp A z (mvS s p L K) (mc (mc o 3) 3)) := by
  have h6 := hY.2.2.2.2.2.1.1
  have hL := hl.1
  have hLP := hl.2.1
  have k0 := cd_placeOf (g := g) (s := s) (o := o) (a2 := none) hY hl hc hp
  rw [hK] at k0
  have k1 := cl_size (s := s) (o := o) hY (l := 3) (by decide)
  simp only [sz, hL] at k1
  have a1 : ¬ nI K < 0 := nI_pos (by omega)
  have a2 : ¬ nI L ≤ nI K := nI_ge hKL (by omega)
  have cK : (nI p).toNatClampNeg = p := nI_clamp (by omega)
  have k2 := cl_remove (g := g) (s := s) (o := o) (s' := su (tkS s (L - 1 - K) K) 18 0 (nI (L - 1))) (o' := mc o 3) hY (l := 3) (n := L) (i := K) (by decide) hL hc hKL (l3_el hl h6) (lch_3 (fun F j h1 h2 => by rw [su_other _ _ h2, tkS_o _ h1]) (fun F j h => mc_o o 3 h j) (fun j h => mc_63o o 3 h)) (mc_63 o 3) (by simp [sz, su]) (fun j hj => by
    simp only [nu]
    rw [su_other _ _ (by decide), tkS_17]
    by_cases x : j < K
    · rw [if_neg (by omega), if_pos x]
    · rw [if_pos (by omega), if_neg x])
  simp only [nu, lk, hKp, cK] at k2
  have k3 := cl_addR (g := g) (s := su (tkS s (L - 1 - K) K) 18 0 (nI (L - 1))) (o := mc o 3) (s' := mvS s p L K) (o' := mc (mc o 3) 3) hY (l := 3) (n := L - 1) (x := p) (by decide) (by simp [sz, su]) (by omega) (lvP 30 (by decide) (by decide) hp) (lch_3 (fun F j h1 h2 => by rw [mvS_o _ _ _ _ h1 h2, su_other _ _ h2, tkS_o _ h1]) (fun F j h => mc_o _ 3 h j) (fun j h => mc_63o _ 3 h)) (mc_63 _ 3) (by simp only [sz]; rw [mvS_18 _ _ _ (by omega), Nat.sub_add_cancel (by omega)]) (fun j hj => by
    simp only [nu]
    rw [mvS_17 _ _ _ _ (by omega), su_other _ _ (by decide), tkS_17, if_neg (by omega)]
    by_cases x : K ≤ j
    · rw [if_pos x, if_pos (by omega)]
    · rw [if_neg x, if_neg (by omega)]) (by
    simp only [nu]
    rw [mvS_17 _ _ _ _ (by omega), if_pos rfl, cK])
  simp only [lk] at k3
  simp only [e_X5_moveToEnd_0, e_X5_moveToEnd_1, e_X5_moveToEnd_5, e_X5_moveToEnd_6, e_X5_moveToEnd_7, e_X5_moveToEnd_10, e_X5_moveToEnd_11, e_X5_moveToEnd_12, e_X5_moveToEnd_18, e_X5_moveToEnd_21, e_X5_moveToEnd_22, e_X5_moveToEnd_25, e_X5_moveToEnd_26, e_X5_moveToEnd_29, e_X5_moveToEnd_33n, e_X5_moveToEnd_33, e_X5_moveToEnd_39, e_X5_moveToEnd_40, cO_19 hY, cg_19_0 hY, cO_20 hY, cg_20_0 hY, cO_21 hY, cg_21_0 hY, rP_n, rS_n, xrd_rP, xrd_rS, xfit_rP, xfit_rS, xcat_rP, xcat_rS, nem, su_get, z1e0, z2e0, z3e0, z4e0, z5e0, z0e1, zme0, Nat.reduceEqDiff, not_true_eq_false, and_self, false_or, or_false, or_self,  bI_eq0, bI_eq1, i10, i20, i30, i00, ne_eq, Decidable.not_not, true_and, and_true, false_and, and_false, xrd_ref, xrd_null, xrd_rf, xid_int, xcat_int, xcat_ref, xcat_null, xcat_long, xcat_rf, xfit_int, xfit_0, xfit_1, xfit_ref, xfit_null, xfit_rf, not_false_eq_true, ↓reduceIte, z01_0, z01_1, bI_01, true_or, or_true, c_X5_moveToEnd_2 _ _ k0, c_X5_moveToEnd_15 (cO_4 hY) k1, c_X5_moveToEnd_30 _ _ k2, c_X5_moveToEnd_36 _ _ k3, a1, a2, cO_4 hY, cO_30 hY, hp]
theorem cd_append {p L : Nat} (hY : zok g A z P S) (hl : lOK s P L) (hc : L ≤ z.1.2.2 3) (hp : p < P) : ∃ z', zle g A z z' P S ∧ L + 1 ≤ z'.1.2.2 3 ∧ Ev g 38 0 [some (.ref (A 19 0)), some (.ref (A 30 p))] [] (cp A z s o) (.inl none, cp A z' (apS s (nI p) L) (mc o 3)) := by
  have h6 := hY.2.2.2.2.2.1.1
  have hL := hl.1
  have hLP := hl.2.1
  have cK : (nI p).toNatClampNeg = p := nI_clamp (by omega)
  obtain ⟨z', q1, q2, k⟩ := cl_add (g := g) (s := s) (o := o) (s' := apS s (nI p) L) (o' := mc o 3) hY (l := 3) (n := L) (x := p) (by decide) hL hc (by omega) (l3_el hl h6) (lvP 30 (by decide) (by decide) hp) (lch_3 (fun F j h1 h2 => apS_o s _ L h1 h2 j) (fun F j h => mc_o _ 3 h j) (fun j h => mc_63o _ 3 h)) (mc_63 _ 3) (by simp [sz, apS, su]) (fun j hj => by
    simp only [nu]
    rw [apS_17, if_neg (by omega)]) (by
    simp only [nu]
    rw [apS_17, if_pos rfl, cK])
  simp only [lk] at k
  refine ⟨z', q1, q2, ?_⟩
  simp only [e_X5_append_0, e_X5_append_1, e_X5_append_4, e_X5_append_8, e_X5_append_9, cO_19 hY, cg_19_0 hY, cO_20 hY, cg_20_0 hY, cO_21 hY, cg_21_0 hY, rP_n, rS_n, xrd_rP, xrd_rS, xfit_rP, xfit_rS, xcat_rP, xcat_rS, nem, su_get, z1e0, z2e0, z3e0, z4e0, z5e0, z0e1, zme0, Nat.reduceEqDiff, not_true_eq_false, and_self, false_or, or_false, or_self,  bI_eq0, bI_eq1, i10, i20, i30, i00, ne_eq, Decidable.not_not, true_and, and_true, false_and, and_false, xrd_ref, xrd_null, xrd_rf, xid_int, xcat_int, xcat_ref, xcat_null, xcat_long, xcat_rf, xfit_int, xfit_0, xfit_1, xfit_ref, xfit_null, xfit_rf, not_false_eq_true, ↓reduceIte, z01_0, z01_1, bI_01, true_or, or_true, c_X5_append_5 _ (cO_4 hY) k]
theorem cd_insert {p L : Nat} {b : Nat} (hY : zok g A z P S) (hl : lOK s P L) (hc : L ≤ z.1.2.2 3) (hp : p < P) (hb : b < 60) : ∃ z', zle g A z z' P S ∧ L + 1 ≤ z'.1.2.2 3 ∧ Ev g 39 0 [some (.ref (A 19 0)), some (.ref (A 30 p)), some (.int (nI b))] [] (cp A z s o) (.inl none, cp A z' (ptS s (nI p) (if b < L then b else L) L) (mc o 3)) := by
  have h6 := hY.2.2.2.2.2.1.1
  have hL := hl.1
  have hLP := hl.2.1
  have cK : (nI p).toNatClampNeg = p := nI_clamp (by omega)
  have k1 := cl_size (s := s) (o := o) hY (l := 3) (by decide)
  simp only [sz, hL] at k1
  have a1 : ¬ nI b < 0 := nI_pos (by omega)
  by_cases x : b < L
  · have a2 : nI b < nI L := nI_lt x (by omega)
    rw [if_pos x]
    obtain ⟨z', q1, q2, k⟩ := cl_addAt (g := g) (s := s) (o := o) (s' := ptS s (nI p) b L) (o' := mc o 3) hY (l := 3) (n := L) (x := p) (i := b) (by decide) hL hc (by omega) (by omega) (l3_el hl h6) (lvP 30 (by decide) (by decide) hp) (lch_3 (fun F j h1 h2 => ptS_o s _ _ L h1 h2 j) (fun F j h => mc_o _ 3 h j) (fun j h => mc_63o _ 3 h)) (mc_63 _ 3) (by simp [sz, ptS, su]) (fun j hj => by
      simp only [nu]
      rw [ptS_17 _ _ (by omega)]
      by_cases y : j < b
      · rw [if_pos y, if_neg (by omega), if_neg (by omega)]
      · rw [if_neg y]
        by_cases w : j = b
        · rw [if_pos w, if_pos w, cK]
        · rw [if_neg w, if_neg w, if_pos (by omega)])
    simp only [lk] at k
    refine ⟨z', q1, q2, ?_⟩
    simp only [e_X5_insert_0, e_X5_insert_1, e_X5_insert_4, e_X5_insert_5, e_X5_insert_6, e_X5_insert_12, e_X5_insert_15, e_X5_insert_16, e_X5_insert_19, e_X5_insert_23, e_X5_insert_24, e_X5_insert_27, e_X5_insert_28, e_X5_insert_31, e_X5_insert_32, e_X5_insert_36, cO_19 hY, cg_19_0 hY, cO_20 hY, cg_20_0 hY, cO_21 hY, cg_21_0 hY, rP_n, rS_n, xrd_rP, xrd_rS, xfit_rP, xfit_rS, xcat_rP, xcat_rS, nem, su_get, z1e0, z2e0, z3e0, z4e0, z5e0, z0e1, zme0, Nat.reduceEqDiff, not_true_eq_false, and_self, false_or, or_false, or_self,  bI_eq0, bI_eq1, i10, i20, i30, i00, ne_eq, Decidable.not_not, true_and, and_true, false_and, and_false, xrd_ref, xrd_null, xrd_rf, xid_int, xcat_int, xcat_ref, xcat_null, xcat_long, xcat_rf, xfit_int, xfit_0, xfit_1, xfit_ref, xfit_null, xfit_rf, not_false_eq_true, ↓reduceIte, z01_0, z01_1, bI_01, true_or, or_true, c_X5_insert_9 (cO_4 hY) k1, c_X5_insert_33 _ (cO_4 hY) k, a1, a2]
  · have a2 : ¬ nI b < nI L := nI_nlt (by omega) (by omega)
    rw [if_neg x]
    obtain ⟨z', q1, q2, k⟩ := cl_add (g := g) (s := s) (o := o) (s' := ptS s (nI p) L L) (o' := mc o 3) hY (l := 3) (n := L) (x := p) (by decide) hL hc (by omega) (l3_el hl h6) (lvP 30 (by decide) (by decide) hp) (lch_3 (fun F j h1 h2 => ptS_o s _ _ L h1 h2 j) (fun F j h => mc_o _ 3 h j) (fun j h => mc_63o _ 3 h)) (mc_63 _ 3) (by simp [sz, ptS, su]) (fun j hj => by
      simp only [nu]
      rw [ptS_17 _ _ (by omega), if_neg (by omega), if_neg (by omega)]) (by
      simp only [nu]
      rw [ptS_17 _ _ (by omega), if_pos rfl, cK])
    simp only [lk] at k
    refine ⟨z', q1, q2, ?_⟩
    simp only [e_X5_insert_0, e_X5_insert_1, e_X5_insert_4, e_X5_insert_5, e_X5_insert_6, e_X5_insert_12, e_X5_insert_15, e_X5_insert_16, e_X5_insert_19, e_X5_insert_23, e_X5_insert_24, e_X5_insert_27, e_X5_insert_28, e_X5_insert_31, e_X5_insert_32, e_X5_insert_36, cO_19 hY, cg_19_0 hY, cO_20 hY, cg_20_0 hY, cO_21 hY, cg_21_0 hY, rP_n, rS_n, xrd_rP, xrd_rS, xfit_rP, xfit_rS, xcat_rP, xcat_rS, nem, su_get, z1e0, z2e0, z3e0, z4e0, z5e0, z0e1, zme0, Nat.reduceEqDiff, not_true_eq_false, and_self, false_or, or_false, or_self,  bI_eq0, bI_eq1, i10, i20, i30, i00, ne_eq, Decidable.not_not, true_and, and_true, false_and, and_false, xrd_ref, xrd_null, xrd_rf, xid_int, xcat_int, xcat_ref, xcat_null, xcat_long, xcat_rf, xfit_int, xfit_0, xfit_1, xfit_ref, xfit_null, xfit_rf, not_false_eq_true, ↓reduceIte, z01_0, z01_1, bI_01, true_or, or_true, c_X5_insert_9 (cO_4 hY) k1, c_X5_insert_20 _ (cO_4 hY) k, a1, a2]
end CR
