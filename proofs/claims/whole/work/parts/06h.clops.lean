/-! ===== calls of the class's lists ===== -/
section CO
variable {g : Nat × Nat × Nat} {A : Nat → Nat → Nat} {z : zT} {s o s' o' : mS} {P S l : Nat}
theorem cl_size (hY : zok g A z P S) (hl : l < 6) : Ev g 3 0 [some (.ref (A (l + 1) 0))] [] (cp A z s o) (.inl (some (.int (sz s o l))), cp A z s o) := by
  have c := cp_ob (s := s) (o := o) hY hl
  have c1 : xO (cp A z s o) (A (l + 1) 0) 0 = true := by simp [xO, c]
  have c2 : xg (cp A z s o) (A (l + 1) 0) 2 = .int (sz s o l) := by simp [xg, c, oF]
  simp only [e_Jx4a65c_size_8abf5_0, e_Jx4a65c_size_8abf5_1, e_Jx4a65c_size_8abf5_4, nem, su_get, z1e0, z2e0, z3e0, z4e0, z5e0, z0e1, zme0, Nat.reduceEqDiff, not_true_eq_false, and_self, false_or, or_false, or_self,  bI_eq0, bI_eq1, i10, i20, i30, i00, ne_eq, Decidable.not_not, true_and, and_true, false_and, and_false, xrd_ref, xrd_null, xrd_rf, xid_int, xcat_int, xcat_ref, xcat_null, xcat_long, xcat_rf, xfit_int, xfit_0, xfit_1, xfit_ref, xfit_null, xfit_rf, not_false_eq_true, ↓reduceIte, z01_0, z01_1, bI_01, true_or, or_true, c1, c2]
theorem rwf_n {n : Nat} (hn : sz s o l = nI n) (h : n < 2 ^ 31) : rwf A s o l = lC n (fun j => .ref (A (lk l) (nu s o l j))) := by
  unfold rwf
  rw [hn, nI_clamp h]
theorem cap_ne {n i : Nat} (hi : i < n) (hcap : n ≤ z.1.2.2 l) : z.1.2.2 l ≠ 0 := by omega
theorem cl_get (hY : zok g A z P S) (hl : l < 6) {n i : Nat} (hn : sz s o l = nI n) (hcap : n ≤ z.1.2.2 l) (hi : i < n) : Ev g 5 0 [some (.ref (A (l + 1) 0)), some (.int (nI i))] [] (cp A z s o) (.inl (some (.ref (A (lk l) (nu s o l i)))), cp A z s o) := by
  have hc := cap_ne (z := z) hi hcap
  have h7 := hY.2.2.2.2.1 l hl
  have e := rwf_n (A := A) hn (by omega)
  have ei : rwf A s o l i = .ref (A (lk l) (nu s o l i)) := by rw [e]; simp [lC, hi]
  have k := jl_get (g := g) (H := cp A z s o) (a := A (l + 1) 0) (e := z.1.2.1 l) (n := n) (c := z.1.2.2 l) (i := i) (m := o 63 l) (f := rwf A s o l) (zok_ne hY hl hc) hi hcap (by omega) (by rw [ei]; rfl)
  rw [ei, ← hn, ← cp_lp hY hl hc] at k
  exact k
theorem rwf_app {n x : Nat} (hn : sz s o l = nI n) (h : n < 2 ^ 30) (h2 : sz s' o' l = nI (n + 1)) (h3 : ∀ j, j < n → nu s' o' l j = nu s o l j) (h5 : nu s' o' l n = x) : rwf A s' o' l = updV (rwf A s o l) n (.ref (A (lk l) x)) := by
  rw [rwf_n hn (by omega), rwf_n h2 (by omega), app_lC]
  funext j
  simp only [lC]
  by_cases c : j < n + 1
  · rw [if_pos c, if_pos c]
    by_cases e : j = n
    · rw [if_pos e, e, h5]
    · rw [if_neg e, h3 j (by omega)]
  · rw [if_neg c, if_neg c]
theorem rwf_el (hY : zok g A z P S) {n : Nat} (hn : sz s o l = nI n) (h : n < 2 ^ 30) (hel : ∀ j, j < n → lv z P S (lk l) (nu s o l j)) : ∀ j, j < n → xok (cp A z s o) (rwf A s o l j) = true ∧ rwf A s o l j ≠ .ref (cp A z s o).1 := by
  intro j hj
  have : rwf A s o l j = .ref (A (lk l) (nu s o l j)) := by rw [rwf_n hn (by omega)]; simp [lC, hj]
  rw [this]
  exact ⟨cp_ok hY (lk_or l) (hel j hj), cp_lt hY (lk_or l) (hel j hj)⟩
theorem gcap_le {n : Nat} (h : n < 460) : n < gcap n ∧ gcap n ≤ 700 := by
  unfold gcap
  split <;> omega
theorem ed_none (hY : zok g A z P S) : z.1.1 g.2.1 = none := by
  cases h : z.1.1 g.2.1 with
  | none => rfl
  | some r =>
    obtain ⟨a1, a2⟩ := hY.2.1 _ r.1 r.2 h
    have := (hY.1 _ _ a1).2.1
    have := hY.2.2.2.1.1
    omega
theorem cl_add (hY : zok g A z P S) (hl : l < 6) {n x : Nat} (hn : sz s o l = nI n) (hcap : n ≤ z.1.2.2 l) (h4 : n < 460) (hel : ∀ j, j < n → lv z P S (lk l) (nu s o l j)) (hx : lv z P S (lk l) x) (hch : lch l s o s' o') (h1 : o' 63 l = o 63 l + 1) (h2 : sz s' o' l = nI (n + 1)) (h3 : ∀ j, j < n → nu s' o' l j = nu s o l j) (h5 : nu s' o' l n = x) : ∃ z', zle g A z z' P S ∧ n + 1 ≤ z'.1.2.2 l ∧ Ev g 7 0 [some (.ref (A (l + 1) 0)), some (.ref (A (lk l) x))] [] (cp A z s o) (.inl (some (.int 1)), cp A z' s' o') := by
  have h7 := hY.2.2.2.2.1 l hl
  have ha := zok_ob hY hl
  have e := rwf_app (A := A) hn (by omega) h2 h3 h5
  have el := rwf_el hY hn (by omega) hel
  have okx := cp_ok (s := s) (o := o) hY (lk_or l) hx
  have ltx := cp_lt (s := s) (o := o) hY (lk_or l) hx
  have gc := gcap_le h4
  by_cases hc : z.1.2.2 l = 0
  · have n0 : n = 0 := by omega
    subst n0
    obtain ⟨w1, f0, w2⟩ := hY.2.2.2.1
    have zz := zg_ok hY hl (c := 10) (B := z.2.2.2) (by omega) (by decide) (fun b _ => rfl)
    have k := jl_add0 (g := g) (H := cp A z s o) (a := A (l + 1) 0) (m := o 63 l) (v := .ref (A (lk l) x)) (f0 := f0) ha.2.2 ha.2.1 w1 (by rw [cp_at_none (ed_none hY)]; exact w2) (zrm hY (by decide)) okx ltx rfl
    refine ⟨zg z l 10 z.2.2.2, zz, by simp [zg], ?_⟩
    have e0 : rwf A s o l = fun _ => .null := by rw [rwf_n hn (by omega), lC_0]
    have fin := lp_cp_g (s := s) (o := o) (s' := s') (o' := o') hY hl (c := 10) (B := z.2.2.2) (H := ((cp A z s o).1 + 1, (cp A z s o).2.1 + 10, (cp A z s o).2.2)) (m := o 63 l + 1) (k := 1) (f := updV (fun _ => .null) 0 (.ref (A (lk l) x))) zz.1 (by decide) hch rfl rfl (fun _ _ => rfl) (fun b => by
      by_cases x : b = z.1.2.1 l
      · rw [if_pos x, x, hY.2.2.1 l hl hc, cp_at_none (ed_none hY)]
      · rw [if_neg x]) h1 (by rw [h2]; exact nI_1e) (by rw [e, e0])
    rw [← nI_0, ← hn, ← cp_lq hY hl hc] at k
    rw [← fin]
    exact k
  · have ne := zok_ne hY hl hc
    have er := zok_er hY hl hc
    have ero := cp_erok (s := s) (o := o) hY hl hc
    by_cases hf : n = z.1.2.2 l
    · have zz := zg_ok hY hl (c := gcap n) (B := fun b => if b = z.1.2.1 l then some (.inr (2, n, rwf A s o l)) else z.2.2.2 b) (by omega) gc.2 (fun b hb => by
        rcases hb with hb | hb
        · rw [if_neg hb]
        · exact absurd hb hc)
      have k := jl_addG (g := g) (H := cp A z s o) (a := A (l + 1) 0) (e := z.1.2.1 l) (n := n) (m := o 63 l) (v := .ref (A (lk l) x)) (f := rwf A s o l) (by omega) (by omega) ne ha.2.2 er.2.2 ha.2.1 (zrm hY (by omega)) ero el okx ltx rfl
      refine ⟨_, zz, by simp [zg]; omega, ?_⟩
      have e2 : lC n (rwf A s o l) = rwf A s o l := by rw [rwf_n hn (by omega), lC_lC]
      have fin := lp_cp_g (s := s) (o := o) (s' := s') (o' := o') hY hl (c := gcap n) (B := fun b => if b = z.1.2.1 l then some (.inr (2, n, rwf A s o l)) else z.2.2.2 b) (H := gH (cp A z s o) (z.1.2.1 l) n (gcap n) (rwf A s o l)) (m := o 63 l + 1) (k := nI (n + 1)) (f := updV (lC n (rwf A s o l)) n (.ref (A (lk l) x))) zz.1 (by omega) hch rfl rfl (fun b hb => by rw [if_neg hb]) (fun b => by
        simp only [gH]
        by_cases x : b = z.1.2.1 l
        · rw [if_pos x, if_pos x, if_pos x]
        · rw [if_neg x, if_neg x]) h1 h2 (by rw [e, e2])
      have start := cp_lp (s := s) (o := o) hY hl hc
      rw [hn, ← hf] at start
      rw [← fin]
      rw [← start] at k
      exact k
    · have k := jl_add (g := g) (H := cp A z s o) (a := A (l + 1) 0) (e := z.1.2.1 l) (n := n) (c := z.1.2.2 l) (m := o 63 l) (v := .ref (A (lk l) x)) (f := rwf A s o l) ne (by omega) (by omega) ha.2.1 er.2.1 ero okx rfl
      refine ⟨z, zle_refl hY, by omega, ?_⟩
      rw [← hn, ← cp_lp hY hl hc, lp_cp hY hl hc hch h1 h2 e] at k
      exact k
theorem rwf_rmv {n i : Nat} (hn : sz s o l = nI n) (h : n < 2 ^ 30) (hi : i < n) (h2 : sz s' o' l = nI (n - 1)) (h3 : ∀ j, j < n - 1 → nu s' o' l j = if j < i then nu s o l j else nu s o l (j + 1)) : rwf A s' o' l = rmv (rwf A s o l) n i := by
  rw [rwf_n hn (by omega), rwf_n h2 (by omega), rmv_lC hi]
  funext j
  simp only [lC]
  by_cases c : j < n - 1
  · rw [if_pos c, if_pos c, h3 j c]
    by_cases e : j < i
    · rw [if_pos e, if_pos e]
    · rw [if_neg e, if_neg e]
  · rw [if_neg c, if_neg c]
theorem cl_remove (hY : zok g A z P S) (hl : l < 6) {n i : Nat} (hn : sz s o l = nI n) (hcap : n ≤ z.1.2.2 l) (hi : i < n) (hel : ∀ j, j < n → lv z P S (lk l) (nu s o l j)) (hch : lch l s o s' o') (h1 : o' 63 l = o 63 l + 1) (h2 : sz s' o' l = nI (n - 1)) (h3 : ∀ j, j < n - 1 → nu s' o' l j = if j < i then nu s o l j else nu s o l (j + 1)) : Ev g 9 0 [some (.ref (A (l + 1) 0)), some (.int (nI i)), none, none] [] (cp A z s o) (.inl (some (.ref (A (lk l) (nu s o l i)))), cp A z s' o') := by
  have h7 := hY.2.2.2.2.1 l hl
  have hc := cap_ne (z := z) hi hcap
  have ha := zok_ob hY hl
  have ne := zok_ne hY hl hc
  have er := zok_er hY hl hc
  have ero := cp_erok (s := s) (o := o) hY hl hc
  have el := rwf_el hY hn (by omega) hel
  have ei : rwf A s o l i = .ref (A (lk l) (nu s o l i)) := by rw [rwf_n hn (by omega)]; simp [lC, hi]
  have k := jl_remove (g := g) (H := cp A z s o) (a := A (l + 1) 0) (e := z.1.2.1 l) (n := n) (c := z.1.2.2 l) (i := i) (m := o 63 l) (f := rwf A s o l) ne hi hcap (by omega) ha.2.1 er.2.1 ero (fun j hj => (el j hj).1) (by rw [ei]; rfl)
  rw [ei, ← hn, ← cp_lp hY hl hc, lp_cp hY hl hc hch h1 h2 (rwf_rmv hn (by omega) hi h2 h3)] at k
  exact k
theorem rwf_ins {n x i : Nat} (hn : sz s o l = nI n) (h : n < 2 ^ 30) (hi : i ≤ n) (h2 : sz s' o' l = nI (n + 1)) (h3 : ∀ j, j < n + 1 → nu s' o' l j = if j < i then nu s o l j else if j = i then x else nu s o l (j - 1)) : rwf A s' o' l = updV (va_cpy (rwf A s o l) (rwf A s o l) i (i + 1) (n - i)) i (.ref (A (lk l) x)) := by
  rw [rwf_n hn (by omega), rwf_n h2 (by omega), ins_lC hi]
  funext j
  simp only [lC]
  by_cases c : j < n + 1
  · rw [if_pos c, if_pos c, h3 j c]
    by_cases e : j < i
    · rw [if_pos e, if_pos e]
    · rw [if_neg e, if_neg e]
      by_cases e2 : j = i
      · rw [if_pos e2, if_pos e2]
      · rw [if_neg e2, if_neg e2]
  · rw [if_neg c, if_neg c]
theorem cl_addAt (hY : zok g A z P S) (hl : l < 6) {n x i : Nat} (hn : sz s o l = nI n) (hcap : n ≤ z.1.2.2 l) (h4 : n < 460) (hi : i ≤ n) (hel : ∀ j, j < n → lv z P S (lk l) (nu s o l j)) (hx : lv z P S (lk l) x) (hch : lch l s o s' o') (h1 : o' 63 l = o 63 l + 1) (h2 : sz s' o' l = nI (n + 1)) (h3 : ∀ j, j < n + 1 → nu s' o' l j = if j < i then nu s o l j else if j = i then x else nu s o l (j - 1)) : ∃ z', zle g A z z' P S ∧ n + 1 ≤ z'.1.2.2 l ∧ Ev g 8 0 [some (.ref (A (l + 1) 0)), some (.int (nI i)), some (.ref (A (lk l) x)), none, none] [] (cp A z s o) (.inl none, cp A z' s' o') := by
  have h7 := hY.2.2.2.2.1 l hl
  have ha := zok_ob hY hl
  have e := rwf_ins (A := A) hn (by omega) hi h2 h3
  have el := rwf_el hY hn (by omega) hel
  have okx := cp_ok (s := s) (o := o) hY (lk_or l) hx
  have ltx := cp_lt (s := s) (o := o) hY (lk_or l) hx
  have gc := gcap_le h4
  by_cases hc : z.1.2.2 l = 0
  · have n0 : n = 0 := by omega
    subst n0
    have i0 : i = 0 := by omega
    subst i0
    obtain ⟨w1, f0, w2⟩ := hY.2.2.2.1
    have zz := zg_ok hY hl (c := 10) (B := z.2.2.2) (by omega) (by decide) (fun b _ => rfl)
    have k := jl_addAt0 (g := g) (H := cp A z s o) (a := A (l + 1) 0) (m := o 63 l) (v := .ref (A (lk l) x)) (f0 := f0) ha.2.2 ha.2.1 w1 (by rw [cp_at_none (ed_none hY)]; exact w2) (zrm hY (by decide)) okx ltx rfl
    refine ⟨zg z l 10 z.2.2.2, zz, by simp [zg], ?_⟩
    have e0 : rwf A s o l = fun _ => .null := by rw [rwf_n hn (by omega), lC_0]
    have fin := lp_cp_g (s := s) (o := o) (s' := s') (o' := o') hY hl (c := 10) (B := z.2.2.2) (H := ((cp A z s o).1 + 1, (cp A z s o).2.1 + 10, (cp A z s o).2.2)) (m := o 63 l + 1) (k := 1) (f := updV (va_cpy (fun _ => .null) (fun _ => .null) 0 1 0) 0 (.ref (A (lk l) x))) zz.1 (by decide) hch rfl rfl (fun _ _ => rfl) (fun b => by
      by_cases x : b = z.1.2.1 l
      · rw [if_pos x, x, hY.2.2.1 l hl hc, cp_at_none (ed_none hY)]
      · rw [if_neg x]) h1 (by rw [h2]; exact nI_1e) (by rw [e, e0])
    rw [← nI_0, ← hn, ← cp_lq hY hl hc, hn] at k
    rw [← fin]
    exact k
  · have ne := zok_ne hY hl hc
    have er := zok_er hY hl hc
    have ero := cp_erok (s := s) (o := o) hY hl hc
    by_cases hf : n = z.1.2.2 l
    · have zz := zg_ok hY hl (c := gcap n) (B := fun b => if b = z.1.2.1 l then some (.inr (2, n, rwf A s o l)) else z.2.2.2 b) (by omega) gc.2 (fun b hb => by
        rcases hb with hb | hb
        · rw [if_neg hb]
        · exact absurd hb hc)
      have k := jl_addAtG (g := g) (H := cp A z s o) (a := A (l + 1) 0) (e := z.1.2.1 l) (n := n) (i := i) (m := o 63 l) (v := .ref (A (lk l) x)) (f := rwf A s o l) (by omega) hi (by omega) ne ha.2.2 er.2.2 ha.2.1 (zrm hY (by omega)) ero el okx ltx rfl
      refine ⟨_, zz, by simp [zg]; omega, ?_⟩
      have e2 : lC n (rwf A s o l) = rwf A s o l := by rw [rwf_n hn (by omega), lC_lC]
      have fin := lp_cp_g (s := s) (o := o) (s' := s') (o' := o') hY hl (c := gcap n) (B := fun b => if b = z.1.2.1 l then some (.inr (2, n, rwf A s o l)) else z.2.2.2 b) (H := gH (cp A z s o) (z.1.2.1 l) n (gcap n) (rwf A s o l)) (m := o 63 l + 1) (k := nI (n + 1)) (f := updV (va_cpy (lC n (rwf A s o l)) (lC n (rwf A s o l)) i (i + 1) (n - i)) i (.ref (A (lk l) x))) zz.1 (by omega) hch rfl rfl (fun b hb => by rw [if_neg hb]) (fun b => by
        simp only [gH]
        by_cases x : b = z.1.2.1 l
        · rw [if_pos x, if_pos x, if_pos x]
        · rw [if_neg x, if_neg x]) h1 h2 (by rw [e, e2])
      have start := cp_lp (s := s) (o := o) hY hl hc
      rw [hn, ← hf] at start
      rw [← fin]
      rw [← start] at k
      exact k
    · have k := jl_addAt (g := g) (H := cp A z s o) (a := A (l + 1) 0) (e := z.1.2.1 l) (n := n) (c := z.1.2.2 l) (i := i) (m := o 63 l) (v := .ref (A (lk l) x)) (f := rwf A s o l) ne hi (by omega) (by omega) ha.2.1 er.2.1 ero (fun j hj => (el j hj).1) okx rfl
      refine ⟨z, zle_refl hY, by omega, ?_⟩
      rw [← hn, ← cp_lp hY hl hc, lp_cp hY hl hc hch h1 h2 e] at k
      exact k
theorem cl_clear (hY : zok g A z P S) (hl : l < 6) {n : Nat} (hn : sz s o l = nI n) (hcap : n ≤ z.1.2.2 l) (hch : lch l s o s' o') (h1 : o' 63 l = o 63 l + 1) (h2 : sz s' o' l = 0) : Ev g 11 0 [some (.ref (A (l + 1) 0)), none, none, none] [] (cp A z s o) (.inl none, cp A z s' o') := by
  have h7 := hY.2.2.2.2.1 l hl
  have ha := zok_ob hY hl
  by_cases hc : z.1.2.2 l = 0
  · have n0 : n = 0 := by omega
    subst n0
    have k := jl_clear0 (g := g) (H := cp A z s o) (a := A (l + 1) 0) (m := o 63 l) ha.2.1
    rw [lq_cp hY hl hc hch h1 h2, ← nI_0, ← hn, ← cp_lq hY hl hc] at k
    exact k
  · have ne := zok_ne hY hl hc
    have er := zok_er hY hl hc
    have k := jl_clear (g := g) (H := cp A z s o) (a := A (l + 1) 0) (e := z.1.2.1 l) (n := n) (c := z.1.2.2 l) (m := o 63 l) (f := rwf A s o l) ne hcap (by omega) ha.2.1 er.2.1
    have e2 : lC n (rwf A s o l) = rwf A s o l := by rw [rwf_n hn (by omega), lC_lC]
    have e3 : rwf A s' o' l = fun _ => .null := by rw [rwf_n (n := 0) (by rw [h2, nI_0]) (by decide), lC_0]
    rw [e2, ← hn, ← cp_lp hY hl hc, lp_cp hY hl hc hch h1 h2 e3] at k
    exact k
end CO
