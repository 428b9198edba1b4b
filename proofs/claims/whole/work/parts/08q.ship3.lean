/-! ===== the class's ship, whole ===== -/
section SD
variable {g : Nat × Nat × Nat} {A : Nat → Nat → Nat} {z : zT} {s o : mS} {P S : Nat}
theorem e_ship0 {l d t w : Int32} (he : e_ship s l d t w = 0) : (1 ≤ l ∧ l ≤ 400) ∧ (1 ≤ d ∧ d ≤ 200) ∧ (0 ≤ t ∧ t ≤ 9599) ∧ ¬ w < -2 ∧ ¬ s 2 0 ≤ w ∧ ¬ s 19 0 = 400 := by
  unfold e_ship at he
  by_cases h1 : (1 ≤ l ∧ l ≤ 400) ∧ (1 ≤ d ∧ d ≤ 200) ∧ (0 ≤ t ∧ t ≤ 9599) ∧ ¬ w < -2
  · rw [if_neg (fun x => x h1)] at he
    by_cases h2 : s 2 0 ≤ w
    · rw [if_pos h2] at he
      exact absurd he (by decide)
    · rw [if_neg h2] at he
      by_cases h3 : s 19 0 = 400
      · rw [if_pos h3] at he
        exact absurd he (by decide)
      · exact ⟨h1.1, h1.2.1, h1.2.2.1, h1.2.2.2, h2, h3⟩
  · rw [if_pos h1] at he
    exact absurd he (by decide)
theorem cd_ship {i l d t w q : Int32} {a7 : Option Value} (hi : i = 0 ∨ i = 1) (hq : q = 0 ∨ q = 1) (hz : zo g A z o P S) (hP : s 2 0 = nI P) (hS : s 19 0 = nI S) (hr : refs s o P S) (hf : frX s S) (he : e_ship s l d t w = 0) (r1 : z.2.1 + 3 ≤ g.1 + 500000 + cps z) (r2 : z.2.2.1 + 25 ≤ 3000000 + sqs z) : ∃ z', zle g (grA A 34 3 S z.2.1) (grz z 34 3 S 25) z' P (S + 1) ∧ (S + 1 ≤ z'.1.2.2 1 ∧ S + 1 ≤ z'.1.2.2 2) ∧ Ev g 57 0 [some (.ref (A 0 0)), some (.int i), some (.int l), some (.int d), some (.int t), some (.int w), some (.int q), a7] [] (cp A z s o) (.inl (some (.int (r_ship s l d t w))), cp (grA A 34 3 S z.2.1) z' (f_ship s i l d t w q) (insO (mc (nsO (su o 60 0 0) S) 1) S (plB (fun j => s 21 (o 93 j).toNatClampNeg) l S 0))) := by
  have hY := hz.1
  have h6 := hY.2.2.2.2.2.1.1
  have h40 := hY.2.2.2.2.2.1.2
  obtain ⟨h1, h2, h3, h4, h5, h7⟩ := e_ship0 he
  have hS4 : S < 400 := by
    have := nI_ne (a := S) (b := 400) (by rw [← hS]; exact h7)
    omega
  have n4 : (-2 : Int32) ≤ w := by rw [Int32.not_lt] at h4; exact h4
  have n5 : w < nI P := by rw [hP, Int32.not_le] at h5; exact h5
  have n6 : nI S < 400 := by
    have := nI_lt (a := S) (b := 400) hS4 (by decide)
    exact this
  have k1 := cl_size (s := s) (o := o) hY (l := 0) (by decide)
  simp only [sz, hP] at k1
  have k2 := cl_size (s := s) (o := o) hY (l := 1) (by decide)
  simp only [sz, hS] at k2
  have hg : g.1 ≤ z.2.1 := Nat.le_trans (hb_0 hY) (Nat.le_of_lt (hY.1 0 0 (lvF 0 (by decide) (by decide))).2.2)
  have hA0 : A 0 0 ≠ z.2.1 := Nat.ne_of_lt (hY.1 0 0 (lvF 0 (by decide) (by decide))).2.2
  have hA1 : A 2 0 ≠ z.2.1 := Nat.ne_of_lt (hY.1 2 0 (lvF 2 (by decide) (by decide))).2.2
  have rm9 := zrm (s := s) (o := su o 60 0 0) hY (show 9 ≤ 100000 by decide)
  have hq9 := hY.2.2.2.2.1
  have q9 : ∀ l, l < 6 → z.1.2.2 l * z.1.2.2 l ≤ 490000 := fun l hl => Nat.mul_le_mul (hq9 l hl) (hq9 l hl)
  have p0 := hq9 0 (by decide); have p1 := hq9 1 (by decide); have p2 := hq9 2 (by decide); have p3 := hq9 3 (by decide); have p4 := hq9 4 (by decide); have p5 := hq9 5 (by decide)
  have b0 := q9 0 (by decide); have b1 := q9 1 (by decide); have b2 := q9 2 (by decide); have b3 := q9 3 (by decide); have b4 := q9 4 (by decide); have b5 := q9 5 (by decide)
  have r1' := r1
  have r2' := r2
  unfold cps at r1'
  unfold sqs at r2'
  obtain ⟨H, k3, H1, H2, c0, c1, c2, c4⟩ := in_X6 (g := g) (K := nx (cp A z s (su o 60 0 0)) 9) (a := z.2.1) (x := nI S) (l := l) (d := d) (t := t) (w := w) hi hq hg (show z.2.1 < z.2.1 + 1 by omega) (show z.2.1 + 1 + 2 ≤ g.1 + 601024 by omega) (show z.2.2.1 + 9 + 16 ≤ 7293034 by omega)
  have eH := ns_cp (s := s) (o := su o 60 0 0) (i := i) (l := l) (d := d) (t := t) (w := w) (q := q) hY h6 h40 (refs_o (fun F j h _ => by simp only [su_get, h, false_and, if_false]) hr) hf H1 H2 c0 c1 c2 (fun b x1 x2 x3 => c4 b x1 x2 x3)
  rw [eH] at k3
  have hY1 : zok g (grA A 34 3 S z.2.1) (grz z 34 3 S 25) P (S + 1) := gro hY lv_S (by decide) (fun k x1 x2 h => by unfold lv at h; omega) ⟨h6, by omega⟩ r1 r2
  obtain ⟨z', q1, q2, k4⟩ := ship_b (g := g) (A := grA A 34 3 S z.2.1) (z := grz z 34 3 S 25) (s := nsS s S i l d t w q) (o := nsO (su o 60 0 0) S) (S := S) (P := P) (i := i) (l := l) (d := d) (t := t) (w := w) (q := q) (a7 := a7) (c := fun j => s 21 (o 93 j).toNatClampNeg) hY1 (by rw [nsS_o (by omega)]; exact hS) hz.2.1.2 hz.2.2.1.2.1 (by rw [nsO_o (by omega)]; simp only [su_get, Nat.reduceEqDiff, false_and, if_false]; exact hz.2.2.1.1) (fun j hj => by
    obtain ⟨y, y1, y2⟩ := hz.2.2.1.2.2 j hj
    refine ⟨y, y1, ?_, ?_⟩
    · rw [nsO_o (by omega)]; simp only [su_get, Nat.reduceEqDiff, false_and, if_false]; exact y2
    · rw [nsS_o (by omega), y2, nI_clamp (by omega)])
  refine ⟨z', q1, q2, ?_⟩
  have e0 : grA A 34 3 S z.2.1 0 0 = A 0 0 := gr_o (by omega)
  have e34 : grA A 34 3 S z.2.1 34 S = z.2.1 := gr_n (by decide) (by decide)
  rw [e0, e34] at k4
  have k86 : ∀ {vs : List Value}, Ev g 3 0 [some (.ref (A 2 0))] [] (ob (nx (cp A z s (su o 60 0 0)) 9) z.2.1 7 vs) (.inl (some (.int (nI S))), ob (nx (cp A z s (su o 60 0 0)) 9) z.2.1 7 vs) := fun {vs} => ls_size (by rw [ob_On hA1, nx_O]; exact cO_2 hY) (by rw [ob_gn hA1, nx_g, cg_2_2 hY]; simp only [sz, hS])
  have hO0 : ∀ {vs : List Value}, xO (ob (nx (cp A z s (su o 60 0 0)) 9) z.2.1 7 vs) (A 0 0) 10 = true := fun {vs} => by rw [ob_On hA0, nx_O]; exact cO_0 hY
  have hg0 : ∀ {vs : List Value}, xg (ob (nx (cp A z s (su o 60 0 0)) 9) z.2.1 7 vs) (A 0 0) 1 = .ref (A 2 0) := fun {vs} => by rw [ob_gn hA0, nx_g]; exact cg_0_1 hY
  have hO1 : ∀ {vs : List Value}, xO (ob (nx (cp A z s (su o 60 0 0)) 9) z.2.1 7 vs) (A 2 0) 0 = true := fun {vs} => by rw [ob_On hA1, nx_O]; exact cO_2 hY
  have ef : ∀ oo : mS, cp (grA A 34 3 S z.2.1) z' (f_ship s i l d t w q) oo = cp (grA A 34 3 S z.2.1) z' (su (nsS s S i l d t w q) 19 0 (nI (S + 1))) oo := by
    intro oo
    have cS : (nI S).toNatClampNeg = S := nI_clamp (by omega)
    refine cp_x q1.1 (fun F j h0 _ _ _ h52 => ?_)
    simp only [f_ship, he, if_true, hS, cS, nsS, nI_1]
    simp only [su_get, h0, h52, false_and, if_false]
  have er : r_ship s l d t w = nI S := by simp only [r_ship, he, if_true, hS]
  rw [ef, er]
  simp only [e_X9_ship_0, e_X9_ship_1, e_X9_ship_2, e_X9_ship_8, e_X9_ship_11, e_X9_ship_12, e_X9_ship_13, e_X9_ship_19, e_X9_ship_22, e_X9_ship_34, e_X9_ship_35, e_X9_ship_41, e_X9_ship_44, e_X9_ship_56, e_X9_ship_58, e_X9_ship_61, e_X9_ship_73, e_X9_ship_74, e_X9_ship_80, e_X9_ship_83, e_X9_ship_94, e_X9_ship_100, e_X9_ship_103, e_X9_ship_106, e_X9_ship_117, e_X9_ship_118, e_X9_ship_121, e_X9_ship_124, e_X9_ship_125, e_X9_ship_126, e_X9_ship_132, e_X9_ship_133, e_X9_ship_134, e_X9_ship_135, e_X9_ship_137, e_X9_ship_139, e_X9_ship_32, e_X9_ship_54, e_X9_ship_71, e_X9_ship_93, e_X9_ship_116, cO_0 hY, cg_0_0 hY, cg_0_1 hY, hb_0 hY, cw_0_14 hY, cg_0_2 hY, cO_34 hY, cg_34_0 hY, rP_n, rS_n, xrd_rP, xrd_rS, xfit_rP, xfit_rS, xcat_rP, xcat_rS, nem, su_get, z1e0, z2e0, z3e0, z4e0, z5e0, z0e1, zme0, Nat.reduceEqDiff, not_true_eq_false, and_self, false_or, or_false, or_self,  bI_eq0, bI_eq1, i10, i20, i30, i00, ne_eq, Decidable.not_not, true_and, and_true, false_and, and_false, xrd_ref, xrd_null, xrd_rf, xid_int, xcat_int, xcat_ref, xcat_null, xcat_long, xcat_rf, xfit_int, xfit_0, xfit_1, xfit_ref, xfit_null, xfit_rf, not_false_eq_true, ↓reduceIte, z01_0, z01_1, bI_01, true_or, or_true, c_X9_ship_5 cd_within, c_X9_ship_16 cd_within, c_X9_ship_38 cd_within, h1, h2, h3, n4, n5, n6, c_X9_ship_77 (cO_1 hY) k1, c_X9_ship_97 (cO_2 hY) k2, rm9, nw_7, show (cp A z s (su o 60 0 0)).1 = z.2.1 from rfl, hO0, hg0, hO1, c_X9_ship_129 _ _ _ k86, c_X9_ship_141 _ k3]
  exact k4
/-- the order by length, one ship more -/
theorem ins_sb {o : mS} {l : Int32} {s' : mS} (hb : sbOK s o S) (hS : S < 400) (h21 : ∀ y, y < S → s' 21 y = s 21 y) (hl : s' 21 S = l) : sbOK s' (insO o S (plB (fun j => s 21 (o 93 j).toNatClampNeg) l S 0)) (S + 1) := by
  obtain ⟨b1, b2⟩ := hb
  obtain ⟨-, p2, p3, p4⟩ := plB_le (fun j => s 21 (o 93 j).toNatClampNeg) l S 0
  generalize plB (fun j => s 21 (o 93 j).toNatClampNeg) l S 0 = i at p2 p3 p4 ⊢
  have hi : i ≤ S := by omega
  have v : ∀ j, j < S + 1 → insO o S i 93 j = if j < i then o 93 j else if j = i then nI S else o 93 (j - 1) := fun j _ => by simp only [insO, if_true]
  have num : ∀ j, j < S → ∃ y, y < S ∧ o 93 j = nI y ∧ (o 93 j).toNatClampNeg = y ∧ ln s' y = ln s y := fun j hj => by
    obtain ⟨y, y1, y2⟩ := b1 j hj
    exact ⟨y, y1, y2, by rw [y2, nI_clamp (by omega)], by simp only [ln, h21 y y1]⟩
  refine ⟨fun j hj => ?_, fun a b hab hb => ?_⟩
  · rw [v j hj]
    by_cases x1 : j < i
    · rw [if_pos x1]
      obtain ⟨y, y1, y2, -⟩ := num j (by omega)
      exact ⟨y, by omega, y2⟩
    · rw [if_neg x1]
      by_cases x2 : j = i
      · rw [if_pos x2]; exact ⟨S, by omega, rfl⟩
      · rw [if_neg x2]
        obtain ⟨y, y1, y2, -⟩ := num (j - 1) (by omega)
        exact ⟨y, by omega, y2⟩
  · have lo : ∀ j, j < i → ∀ y, (o 93 j).toNatClampNeg = y → l.toInt ≤ ln s y := fun j hj y e => by
      have := p3 j (by omega) hj
      simp only [e] at this
      rw [Int32.lt_iff_toInt_lt] at this
      simp only [ln]
      omega
    have hi2 : ∀ j, i ≤ j → j < S → ∀ y, (o 93 j).toNatClampNeg = y → ln s y < l.toInt := fun j hj hjS y e => by
      have c := p4 (by omega)
      rw [Int32.lt_iff_toInt_lt] at c
      by_cases x : j = i
      · rw [x] at e
        simp only [e] at c
        exact c
      · have := b2 i j (by omega) hjS
        simp only [pr, ln, e] at this
        simp only [ln]
        omega
    have eS : ln s' S = l.toInt := by simp only [ln, hl]
    rw [v a (by omega), v b hb]
    by_cases x1 : b < i
    · rw [if_pos x1, if_pos (show a < i by omega)]
      obtain ⟨y, y1, -, y3, y4⟩ := num a (by omega)
      obtain ⟨u, u1, -, u3, u4⟩ := num b (by omega)
      have := b2 a b hab (by omega)
      rw [y3, u3] at this ⊢
      simp only [pr, y4, u4] at this ⊢
      exact this
    · rw [if_neg x1]
      by_cases x2 : b = i
      · rw [if_pos x2, if_pos (show a < i by omega)]
        obtain ⟨y, y1, -, y3, y4⟩ := num a (by omega)
        have := lo a (by omega) y y3
        rw [y3, nI_clamp (by omega)]
        simp only [pr, y4, eS]
        omega
      · rw [if_neg x2]
        obtain ⟨u, u1, -, u3, u4⟩ := num (b - 1) (by omega)
        by_cases x3 : a < i
        · rw [if_pos x3]
          obtain ⟨y, y1, -, y3, y4⟩ := num a (by omega)
          have := b2 a (b - 1) (by omega) (by omega)
          rw [y3, u3] at this ⊢
          simp only [pr, y4, u4] at this ⊢
          exact this
        · rw [if_neg x3]
          by_cases x4 : a = i
          · rw [if_pos x4, u3, nI_clamp (by omega)]
            have := hi2 (b - 1) (by omega) (by omega) u u3
            simp only [pr, u4, eS]
            omega
          · rw [if_neg x4]
            obtain ⟨y, y1, -, y3, y4⟩ := num (a - 1) (by omega)
            have := b2 (a - 1) (b - 1) (by omega) (by omega)
            rw [y3, u3] at this ⊢
            simp only [pr, y4, u4] at this ⊢
            exact this
end SD
