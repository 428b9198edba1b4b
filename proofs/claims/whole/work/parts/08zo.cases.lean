/-! ===== a call in the law's loop ===== -/
/-- from the case's place to the loop's end, with the invariant -/
def NX (g : Nat × Nat × Nat) (b N : Nat) (xs : Nat → Int32) (n i pc : Nat) (H : xH) (a5 a6 : Option Value) : Prop := ∃ (s2 : mS) (H3 : xH) (c5 c6 : Option Value), LI g b N xs (n + 2) s2 s2 H3 ∧ ∀ out, Ev g 179 pc [some (.ref b), some (.ref g.1), some (.ref (g.1 + 20)), some (.ref (g.1 + 62)), some (.int (nI i)), a5, a6] [] H out = Ev g 179 1466 [some (.ref b), some (.ref g.1), some (.ref (g.1 + 20)), some (.ref (g.1 + 62)), some (.int (nI i)), c5, c6] [] H3 out
section CS
variable {g : Nat × Nat × Nat} {b N n i : Nat} {xs : Nat → Int32} {s s1 s' : mS} {H H2 : xH} {a5 a6 : Option Value}
theorem ix {k : Nat} (hi : i + 7 ≤ N) (hN : N ≤ 3584) (hk : k < 7) : ¬ nI (i + k) < 0 ∧ (nI (i + k)).toNatClampNeg = i + k ∧ ¬ N ≤ i + k := ⟨nI_pos (by omega), nI_clamp (by omega), by omega⟩
theorem thr3 {e : Int32} (h : LI g b N xs n s' s' H) (he : s' 0 0 = e) : Ev g 111 0 [some (.ref (g.1 + 20))] [] H (.inl (some (.int e)), H) := by
  have k := md_thrown (g := g) (m0 := g.1 + 20) (s := s') (h := H)
  rw [LI_heap h, he] at k
  exact k
theorem C_pilot {e r : Int32} (hi : i + 7 ≤ N) (hN : N ≤ 3584) (h : LI g b N xs n s s H) (w : Ev g 164 0 [some (.ref g.1), some (.int (xs (i + 1))), some (.int (xs (i + 2))), some (.int (xs (i + 3))), some (.ref (g.1 + 62)), none] [] H (.inl (some (.int e)), H2)) (hL2 : LI g b N xs (n + 1) s s' H2) (hv : e = 0 → xe H2 (g.1 + 62) 0 = .long (r).toInt64) (m : MS g b N xs n s s' 116 [some (.ref (g.1 + 20)), some (.int (xs (i + 1))), some (.int (xs (i + 2))), some (.int (xs (i + 3))), none] (some (.int r))) (ht : s' 0 0 = e) : NX g b N xs n i 144 H a5 a6 := by
  obtain ⟨H3, m1, hL3, hx⟩ := m H2 hL2
  have t3 := thr3 hL3 ht
  obtain ⟨sA, sl, se⟩ := LI_script h
  obtain ⟨sA2, sl2, se2⟩ := LI_script hL2
  have fM2 := (LI_facts hL2).2.1
  obtain ⟨-, fM3, ⟨oA, ol⟩, -⟩ := LI_facts hL3
  have p1 := ix (k := 1) hi hN (by decide)
  have p2 := ix (k := 2) hi hN (by decide)
  have p3 := ix (k := 3) hi hN (by decide)
  have p4 := ix (k := 4) hi hN (by decide)
  have p5 := ix (k := 5) hi hN (by decide)
  have p6 := ix (k := 6) hi hN (by decide)
  refine ⟨s', H3, some (.int e), some (.int r), hL3, fun out => ?_⟩
  by_cases e0 : e = 0
  · have hv2 := hx.trans (hv e0)
    subst e0
    simp only [e_L_law_144, e_L_law_145, e_L_law_146, e_L_law_148, e_L_law_149, e_L_law_150, e_L_law_151, e_L_law_152, e_L_law_154, e_L_law_155, e_L_law_156, e_L_law_157, e_L_law_158, e_L_law_160, e_L_law_161, e_L_law_162, e_L_law_163, e_L_law_167, e_L_law_169, e_L_law_170, e_L_law_171, e_L_law_173, e_L_law_174, e_L_law_175, e_L_law_176, e_L_law_177, e_L_law_179, e_L_law_180, e_L_law_181, e_L_law_182, e_L_law_183, e_L_law_185, e_L_law_186, e_L_law_187, e_L_law_191, e_L_law_193, e_L_law_197, e_L_law_199, e_L_law_202, e_L_law_203, e_L_law_204, e_L_law_206, e_L_law_209, e_L_law_210, e_L_law_211, e_L_law_212, e_L_law_214, e_L_law_215, e_L_law_216, e_L_law_219, e_L_law_220, e_L_law_221, c_L_law_164 _ _ w, c_L_law_188 _ m1, c_L_law_194 _ t3, hv2, eq_self, sA, sl, se, sA2, sl2, se2, fM2, fM3, oA, ol, i0l, c00, n10, lg_self, nI_1, nI_2, nI_3, nI_4', nI_5', nI_6', p1.1, p1.2.1, p1.2.2, p2.1, p2.2.1, p2.2.2, p3.1, p3.2.1, p3.2.2, p4.1, p4.2.1, p4.2.2, p5.1, p5.2.1, p5.2.2, p6.1, p6.2.1, p6.2.2, nem, su_get, z1e0, z2e0, z3e0, z4e0, z5e0, z0e1, zme0, Nat.reduceEqDiff, not_true_eq_false, and_self, false_or, or_false, or_self,  bI_eq0, bI_eq1, i10, i20, i30, i00, ne_eq, Decidable.not_not, true_and, and_true, false_and, and_false, xrd_ref, xrd_null, xrd_rf, xid_int, xcat_int, xcat_ref, xcat_null, xcat_long, xcat_rf, xfit_int, xfit_0, xfit_1, xfit_ref, xfit_null, xfit_rf, not_false_eq_true, ↓reduceIte, z01_0, z01_1, bI_01, true_or, or_true]
  · simp only [e_L_law_144, e_L_law_145, e_L_law_146, e_L_law_148, e_L_law_149, e_L_law_150, e_L_law_151, e_L_law_152, e_L_law_154, e_L_law_155, e_L_law_156, e_L_law_157, e_L_law_158, e_L_law_160, e_L_law_161, e_L_law_162, e_L_law_163, e_L_law_167, e_L_law_169, e_L_law_170, e_L_law_171, e_L_law_173, e_L_law_174, e_L_law_175, e_L_law_176, e_L_law_177, e_L_law_179, e_L_law_180, e_L_law_181, e_L_law_182, e_L_law_183, e_L_law_185, e_L_law_186, e_L_law_187, e_L_law_191, e_L_law_193, e_L_law_197, e_L_law_199, e_L_law_202, e_L_law_203, e_L_law_204, e_L_law_206, e_L_law_209, e_L_law_210, e_L_law_211, e_L_law_212, e_L_law_214, e_L_law_215, e_L_law_216, e_L_law_219, e_L_law_220, e_L_law_221, c_L_law_164 _ _ w, c_L_law_188 _ m1, c_L_law_194 _ t3, e0, eq_self, sA, sl, se, sA2, sl2, se2, fM2, fM3, oA, ol, i0l, c00, n10, lg_self, nI_1, nI_2, nI_3, nI_4', nI_5', nI_6', p1.1, p1.2.1, p1.2.2, p2.1, p2.2.1, p2.2.2, p3.1, p3.2.1, p3.2.2, p4.1, p4.2.1, p4.2.2, p5.1, p5.2.1, p5.2.2, p6.1, p6.2.1, p6.2.2, nem, su_get, z1e0, z2e0, z3e0, z4e0, z5e0, z0e1, zme0, Nat.reduceEqDiff, not_true_eq_false, and_self, false_or, or_false, or_self,  bI_eq0, bI_eq1, i10, i20, i30, i00, ne_eq, Decidable.not_not, true_and, and_true, false_and, and_false, xrd_ref, xrd_null, xrd_rf, xid_int, xcat_int, xcat_ref, xcat_null, xcat_long, xcat_rf, xfit_int, xfit_0, xfit_1, xfit_ref, xfit_null, xfit_rf, not_false_eq_true, ↓reduceIte, z01_0, z01_1, bI_01, true_or, or_true]
theorem C_ship {e r : Int32} (hi : i + 7 ≤ N) (hN : N ≤ 3584) (h : LI g b N xs n s s H) (w : Ev g 165 0 [some (.ref g.1), some (.int (ib (xs (i + 1)))), some (.int (xs (i + 2))), some (.int (xs (i + 3))), some (.int (xs (i + 4))), some (.int (xs (i + 5))), some (.int (ib (xs (i + 6)))), some (.ref (g.1 + 62)), none] [] H (.inl (some (.int e)), H2)) (hL2 : LI g b N xs (n + 1) s s' H2) (hv : e = 0 → xe H2 (g.1 + 62) 0 = .long (r).toInt64) (m : MS g b N xs n s s' 117 [some (.ref (g.1 + 20)), some (.int (ib (xs (i + 1)))), some (.int (xs (i + 2))), some (.int (xs (i + 3))), some (.int (xs (i + 4))), some (.int (xs (i + 5))), some (.int (ib (xs (i + 6)))), none] (some (.int r))) (ht : s' 0 0 = e) : NX g b N xs n i 224 H a5 a6 := by
  obtain ⟨H3, m1, hL3, hx⟩ := m H2 hL2
  have t3 := thr3 hL3 ht
  obtain ⟨sA, sl, se⟩ := LI_script h
  obtain ⟨sA2, sl2, se2⟩ := LI_script hL2
  have fM2 := (LI_facts hL2).2.1
  obtain ⟨-, fM3, ⟨oA, ol⟩, -⟩ := LI_facts hL3
  have p1 := ix (k := 1) hi hN (by decide)
  have p2 := ix (k := 2) hi hN (by decide)
  have p3 := ix (k := 3) hi hN (by decide)
  have p4 := ix (k := 4) hi hN (by decide)
  have p5 := ix (k := 5) hi hN (by decide)
  have p6 := ix (k := 6) hi hN (by decide)
  refine ⟨s', H3, some (.int e), some (.int r), hL3, fun out => ?_⟩
  by_cases e0 : e = 0
  · have hv2 := hx.trans (hv e0)
    subst e0
    simp only [e_L_law_224, e_L_law_225, e_L_law_226, e_L_law_228, e_L_law_229, e_L_law_230, e_L_law_239, e_L_law_240, e_L_law_242, e_L_law_243, e_L_law_244, e_L_law_245, e_L_law_246, e_L_law_248, e_L_law_249, e_L_law_250, e_L_law_251, e_L_law_252, e_L_law_254, e_L_law_255, e_L_law_256, e_L_law_257, e_L_law_258, e_L_law_260, e_L_law_261, e_L_law_262, e_L_law_263, e_L_law_264, e_L_law_266, e_L_law_268, e_L_law_269, e_L_law_278, e_L_law_282, e_L_law_284, e_L_law_285, e_L_law_286, e_L_law_288, e_L_law_289, e_L_law_290, e_L_law_299, e_L_law_300, e_L_law_302, e_L_law_303, e_L_law_304, e_L_law_305, e_L_law_306, e_L_law_308, e_L_law_309, e_L_law_310, e_L_law_311, e_L_law_312, e_L_law_314, e_L_law_315, e_L_law_316, e_L_law_317, e_L_law_318, e_L_law_320, e_L_law_321, e_L_law_322, e_L_law_323, e_L_law_324, e_L_law_326, e_L_law_328, e_L_law_329, e_L_law_341, e_L_law_343, e_L_law_347, e_L_law_349, e_L_law_352, e_L_law_353, e_L_law_354, e_L_law_356, e_L_law_359, e_L_law_360, e_L_law_361, e_L_law_362, e_L_law_364, e_L_law_365, e_L_law_366, e_L_law_369, e_L_law_370, e_L_law_371, b_L_law_231, b_L_law_270, b_L_law_291, b_L_law_330, c_L_law_279 _ _ w, c_L_law_338 _ m1, c_L_law_344 _ t3, hv2, eq_self, sA, sl, se, sA2, sl2, se2, fM2, fM3, oA, ol, i0l, c00, n10, lg_self, nI_1, nI_2, nI_3, nI_4', nI_5', nI_6', p1.1, p1.2.1, p1.2.2, p2.1, p2.2.1, p2.2.2, p3.1, p3.2.1, p3.2.2, p4.1, p4.2.1, p4.2.2, p5.1, p5.2.1, p5.2.2, p6.1, p6.2.1, p6.2.2, nem, su_get, z1e0, z2e0, z3e0, z4e0, z5e0, z0e1, zme0, Nat.reduceEqDiff, not_true_eq_false, and_self, false_or, or_false, or_self,  bI_eq0, bI_eq1, i10, i20, i30, i00, ne_eq, Decidable.not_not, true_and, and_true, false_and, and_false, xrd_ref, xrd_null, xrd_rf, xid_int, xcat_int, xcat_ref, xcat_null, xcat_long, xcat_rf, xfit_int, xfit_0, xfit_1, xfit_ref, xfit_null, xfit_rf, not_false_eq_true, ↓reduceIte, z01_0, z01_1, bI_01, true_or, or_true]
  · simp only [e_L_law_224, e_L_law_225, e_L_law_226, e_L_law_228, e_L_law_229, e_L_law_230, e_L_law_239, e_L_law_240, e_L_law_242, e_L_law_243, e_L_law_244, e_L_law_245, e_L_law_246, e_L_law_248, e_L_law_249, e_L_law_250, e_L_law_251, e_L_law_252, e_L_law_254, e_L_law_255, e_L_law_256, e_L_law_257, e_L_law_258, e_L_law_260, e_L_law_261, e_L_law_262, e_L_law_263, e_L_law_264, e_L_law_266, e_L_law_268, e_L_law_269, e_L_law_278, e_L_law_282, e_L_law_284, e_L_law_285, e_L_law_286, e_L_law_288, e_L_law_289, e_L_law_290, e_L_law_299, e_L_law_300, e_L_law_302, e_L_law_303, e_L_law_304, e_L_law_305, e_L_law_306, e_L_law_308, e_L_law_309, e_L_law_310, e_L_law_311, e_L_law_312, e_L_law_314, e_L_law_315, e_L_law_316, e_L_law_317, e_L_law_318, e_L_law_320, e_L_law_321, e_L_law_322, e_L_law_323, e_L_law_324, e_L_law_326, e_L_law_328, e_L_law_329, e_L_law_341, e_L_law_343, e_L_law_347, e_L_law_349, e_L_law_352, e_L_law_353, e_L_law_354, e_L_law_356, e_L_law_359, e_L_law_360, e_L_law_361, e_L_law_362, e_L_law_364, e_L_law_365, e_L_law_366, e_L_law_369, e_L_law_370, e_L_law_371, b_L_law_231, b_L_law_270, b_L_law_291, b_L_law_330, c_L_law_279 _ _ w, c_L_law_338 _ m1, c_L_law_344 _ t3, e0, eq_self, sA, sl, se, sA2, sl2, se2, fM2, fM3, oA, ol, i0l, c00, n10, lg_self, nI_1, nI_2, nI_3, nI_4', nI_5', nI_6', p1.1, p1.2.1, p1.2.2, p2.1, p2.2.1, p2.2.2, p3.1, p3.2.1, p3.2.2, p4.1, p4.2.1, p4.2.2, p5.1, p5.2.1, p5.2.2, p6.1, p6.2.1, p6.2.2, nem, su_get, z1e0, z2e0, z3e0, z4e0, z5e0, z0e1, zme0, Nat.reduceEqDiff, not_true_eq_false, and_self, false_or, or_false, or_self,  bI_eq0, bI_eq1, i10, i20, i30, i00, ne_eq, Decidable.not_not, true_and, and_true, false_and, and_false, xrd_ref, xrd_null, xrd_rf, xid_int, xcat_int, xcat_ref, xcat_null, xcat_long, xcat_rf, xfit_int, xfit_0, xfit_1, xfit_ref, xfit_null, xfit_rf, not_false_eq_true, ↓reduceIte, z01_0, z01_1, bI_01, true_or, or_true]
theorem C_tide {e r : Int32} (hi : i + 7 ≤ N) (hN : N ≤ 3584) (h : LI g b N xs n s s H) (w : Ev g 166 0 [some (.ref g.1), some (.int (xs (i + 1))), some (.int (xs (i + 2))), some (.ref (g.1 + 62)), none] [] H (.inl (some (.int e)), H2)) (hL2 : LI g b N xs (n + 1) s s' H2) (hv : e = 0 → xe H2 (g.1 + 62) 0 = .long (r).toInt64) (m : MS g b N xs n s s' 118 [some (.ref (g.1 + 20)), some (.int (xs (i + 1))), some (.int (xs (i + 2)))] (some (.int r))) (ht : s' 0 0 = e) : NX g b N xs n i 374 H a5 a6 := by
  obtain ⟨H3, m1, hL3, hx⟩ := m H2 hL2
  have t3 := thr3 hL3 ht
  obtain ⟨sA, sl, se⟩ := LI_script h
  obtain ⟨sA2, sl2, se2⟩ := LI_script hL2
  have fM2 := (LI_facts hL2).2.1
  obtain ⟨-, fM3, ⟨oA, ol⟩, -⟩ := LI_facts hL3
  have p1 := ix (k := 1) hi hN (by decide)
  have p2 := ix (k := 2) hi hN (by decide)
  have p3 := ix (k := 3) hi hN (by decide)
  have p4 := ix (k := 4) hi hN (by decide)
  have p5 := ix (k := 5) hi hN (by decide)
  have p6 := ix (k := 6) hi hN (by decide)
  refine ⟨s', H3, some (.int e), some (.int r), hL3, fun out => ?_⟩
  by_cases e0 : e = 0
  · have hv2 := hx.trans (hv e0)
    subst e0
    simp only [e_L_law_374, e_L_law_375, e_L_law_376, e_L_law_378, e_L_law_379, e_L_law_380, e_L_law_381, e_L_law_382, e_L_law_384, e_L_law_385, e_L_law_386, e_L_law_387, e_L_law_391, e_L_law_393, e_L_law_394, e_L_law_395, e_L_law_397, e_L_law_398, e_L_law_399, e_L_law_400, e_L_law_401, e_L_law_403, e_L_law_404, e_L_law_405, e_L_law_409, e_L_law_411, e_L_law_415, e_L_law_417, e_L_law_420, e_L_law_421, e_L_law_422, e_L_law_424, e_L_law_427, e_L_law_428, e_L_law_429, e_L_law_430, e_L_law_432, e_L_law_433, e_L_law_434, e_L_law_437, e_L_law_438, e_L_law_439, c_L_law_388 _ _ w, c_L_law_406 _ m1, c_L_law_412 _ t3, hv2, eq_self, sA, sl, se, sA2, sl2, se2, fM2, fM3, oA, ol, i0l, c00, n10, lg_self, nI_1, nI_2, nI_3, nI_4', nI_5', nI_6', p1.1, p1.2.1, p1.2.2, p2.1, p2.2.1, p2.2.2, p3.1, p3.2.1, p3.2.2, p4.1, p4.2.1, p4.2.2, p5.1, p5.2.1, p5.2.2, p6.1, p6.2.1, p6.2.2, nem, su_get, z1e0, z2e0, z3e0, z4e0, z5e0, z0e1, zme0, Nat.reduceEqDiff, not_true_eq_false, and_self, false_or, or_false, or_self,  bI_eq0, bI_eq1, i10, i20, i30, i00, ne_eq, Decidable.not_not, true_and, and_true, false_and, and_false, xrd_ref, xrd_null, xrd_rf, xid_int, xcat_int, xcat_ref, xcat_null, xcat_long, xcat_rf, xfit_int, xfit_0, xfit_1, xfit_ref, xfit_null, xfit_rf, not_false_eq_true, ↓reduceIte, z01_0, z01_1, bI_01, true_or, or_true]
  · simp only [e_L_law_374, e_L_law_375, e_L_law_376, e_L_law_378, e_L_law_379, e_L_law_380, e_L_law_381, e_L_law_382, e_L_law_384, e_L_law_385, e_L_law_386, e_L_law_387, e_L_law_391, e_L_law_393, e_L_law_394, e_L_law_395, e_L_law_397, e_L_law_398, e_L_law_399, e_L_law_400, e_L_law_401, e_L_law_403, e_L_law_404, e_L_law_405, e_L_law_409, e_L_law_411, e_L_law_415, e_L_law_417, e_L_law_420, e_L_law_421, e_L_law_422, e_L_law_424, e_L_law_427, e_L_law_428, e_L_law_429, e_L_law_430, e_L_law_432, e_L_law_433, e_L_law_434, e_L_law_437, e_L_law_438, e_L_law_439, c_L_law_388 _ _ w, c_L_law_406 _ m1, c_L_law_412 _ t3, e0, eq_self, sA, sl, se, sA2, sl2, se2, fM2, fM3, oA, ol, i0l, c00, n10, lg_self, nI_1, nI_2, nI_3, nI_4', nI_5', nI_6', p1.1, p1.2.1, p1.2.2, p2.1, p2.2.1, p2.2.2, p3.1, p3.2.1, p3.2.2, p4.1, p4.2.1, p4.2.2, p5.1, p5.2.1, p5.2.2, p6.1, p6.2.1, p6.2.2, nem, su_get, z1e0, z2e0, z3e0, z4e0, z5e0, z0e1, zme0, Nat.reduceEqDiff, not_true_eq_false, and_self, false_or, or_false, or_self,  bI_eq0, bI_eq1, i10, i20, i30, i00, ne_eq, Decidable.not_not, true_and, and_true, false_and, and_false, xrd_ref, xrd_null, xrd_rf, xid_int, xcat_int, xcat_ref, xcat_null, xcat_long, xcat_rf, xfit_int, xfit_0, xfit_1, xfit_ref, xfit_null, xfit_rf, not_false_eq_true, ↓reduceIte, z01_0, z01_1, bI_01, true_or, or_true]
theorem C_tear {e r : Int32} (hi : i + 7 ≤ N) (hN : N ≤ 3584) (h : LI g b N xs n s s H) (w : Ev g 167 0 [some (.ref g.1), some (.int (xs (i + 1))), some (.ref (g.1 + 62)), none] [] H (.inl (some (.int e)), H2)) (hL2 : LI g b N xs (n + 1) s s' H2) (hv : e = 0 → xe H2 (g.1 + 62) 0 = .long (lb (r))) (m : MS g b N xs n s s' 119 [some (.ref (g.1 + 20)), some (.int (xs (i + 1))), none] (some (.int r))) (ht : s' 0 0 = e) : NX g b N xs n i 442 H a5 a6 := by
  obtain ⟨H3, m1, hL3, hx⟩ := m H2 hL2
  have t3 := thr3 hL3 ht
  obtain ⟨sA, sl, se⟩ := LI_script h
  obtain ⟨sA2, sl2, se2⟩ := LI_script hL2
  have fM2 := (LI_facts hL2).2.1
  obtain ⟨-, fM3, ⟨oA, ol⟩, -⟩ := LI_facts hL3
  have p1 := ix (k := 1) hi hN (by decide)
  have p2 := ix (k := 2) hi hN (by decide)
  have p3 := ix (k := 3) hi hN (by decide)
  have p4 := ix (k := 4) hi hN (by decide)
  have p5 := ix (k := 5) hi hN (by decide)
  have p6 := ix (k := 6) hi hN (by decide)
  refine ⟨s', H3, some (.int e), some (.int r), hL3, fun out => ?_⟩
  by_cases e0 : e = 0
  · have hv2 := hx.trans (hv e0)
    subst e0
    simp only [e_L_law_442, e_L_law_443, e_L_law_444, e_L_law_446, e_L_law_447, e_L_law_448, e_L_law_449, e_L_law_453, e_L_law_455, e_L_law_456, e_L_law_457, e_L_law_459, e_L_law_460, e_L_law_461, e_L_law_465, e_L_law_467, e_L_law_471, e_L_law_473, e_L_law_476, e_L_law_477, e_L_law_478, e_L_law_480, e_L_law_483, e_L_law_484, e_L_law_485, e_L_law_486, e_L_law_496, e_L_law_497, e_L_law_500, e_L_law_501, e_L_law_502, b_L_law_488, c_L_law_450 _ _ w, c_L_law_462 _ m1, c_L_law_468 _ t3, hv2, eq_self, sA, sl, se, sA2, sl2, se2, fM2, fM3, oA, ol, i0l, c00, n10, lg_self, nI_1, nI_2, nI_3, nI_4', nI_5', nI_6', p1.1, p1.2.1, p1.2.2, p2.1, p2.2.1, p2.2.2, p3.1, p3.2.1, p3.2.2, p4.1, p4.2.1, p4.2.2, p5.1, p5.2.1, p5.2.2, p6.1, p6.2.1, p6.2.2, nem, su_get, z1e0, z2e0, z3e0, z4e0, z5e0, z0e1, zme0, Nat.reduceEqDiff, not_true_eq_false, and_self, false_or, or_false, or_self,  bI_eq0, bI_eq1, i10, i20, i30, i00, ne_eq, Decidable.not_not, true_and, and_true, false_and, and_false, xrd_ref, xrd_null, xrd_rf, xid_int, xcat_int, xcat_ref, xcat_null, xcat_long, xcat_rf, xfit_int, xfit_0, xfit_1, xfit_ref, xfit_null, xfit_rf, not_false_eq_true, ↓reduceIte, z01_0, z01_1, bI_01, true_or, or_true]
  · simp only [e_L_law_442, e_L_law_443, e_L_law_444, e_L_law_446, e_L_law_447, e_L_law_448, e_L_law_449, e_L_law_453, e_L_law_455, e_L_law_456, e_L_law_457, e_L_law_459, e_L_law_460, e_L_law_461, e_L_law_465, e_L_law_467, e_L_law_471, e_L_law_473, e_L_law_476, e_L_law_477, e_L_law_478, e_L_law_480, e_L_law_483, e_L_law_484, e_L_law_485, e_L_law_486, e_L_law_496, e_L_law_497, e_L_law_500, e_L_law_501, e_L_law_502, b_L_law_488, c_L_law_450 _ _ w, c_L_law_462 _ m1, c_L_law_468 _ t3, e0, eq_self, sA, sl, se, sA2, sl2, se2, fM2, fM3, oA, ol, i0l, c00, n10, lg_self, nI_1, nI_2, nI_3, nI_4', nI_5', nI_6', p1.1, p1.2.1, p1.2.2, p2.1, p2.2.1, p2.2.2, p3.1, p3.2.1, p3.2.2, p4.1, p4.2.1, p4.2.2, p5.1, p5.2.1, p5.2.2, p6.1, p6.2.1, p6.2.2, nem, su_get, z1e0, z2e0, z3e0, z4e0, z5e0, z0e1, zme0, Nat.reduceEqDiff, not_true_eq_false, and_self, false_or, or_false, or_self,  bI_eq0, bI_eq1, i10, i20, i30, i00, ne_eq, Decidable.not_not, true_and, and_true, false_and, and_false, xrd_ref, xrd_null, xrd_rf, xid_int, xcat_int, xcat_ref, xcat_null, xcat_long, xcat_rf, xfit_int, xfit_0, xfit_1, xfit_ref, xfit_null, xfit_rf, not_false_eq_true, ↓reduceIte, z01_0, z01_1, bI_01, true_or, or_true]
theorem C_boat {e r : Int32} (hi : i + 7 ≤ N) (hN : N ≤ 3584) (h : LI g b N xs n s s H) (w : Ev g 168 0 [some (.ref g.1), some (.int (xs (i + 1))), some (.int (xs (i + 2))), some (.ref (g.1 + 62)), none] [] H (.inl (some (.int e)), H2)) (hL2 : LI g b N xs (n + 1) s s' H2) (hv : e = 0 → xe H2 (g.1 + 62) 0 = .long (r).toInt64) (m : MS g b N xs n s s' 120 [some (.ref (g.1 + 20)), some (.int (xs (i + 1))), some (.int (xs (i + 2)))] (some (.int r))) (ht : s' 0 0 = e) : NX g b N xs n i 505 H a5 a6 := by
  obtain ⟨H3, m1, hL3, hx⟩ := m H2 hL2
  have t3 := thr3 hL3 ht
  obtain ⟨sA, sl, se⟩ := LI_script h
  obtain ⟨sA2, sl2, se2⟩ := LI_script hL2
  have fM2 := (LI_facts hL2).2.1
  obtain ⟨-, fM3, ⟨oA, ol⟩, -⟩ := LI_facts hL3
  have p1 := ix (k := 1) hi hN (by decide)
  have p2 := ix (k := 2) hi hN (by decide)
  have p3 := ix (k := 3) hi hN (by decide)
  have p4 := ix (k := 4) hi hN (by decide)
  have p5 := ix (k := 5) hi hN (by decide)
  have p6 := ix (k := 6) hi hN (by decide)
  refine ⟨s', H3, some (.int e), some (.int r), hL3, fun out => ?_⟩
  by_cases e0 : e = 0
  · have hv2 := hx.trans (hv e0)
    subst e0
    simp only [e_L_law_505, e_L_law_506, e_L_law_507, e_L_law_509, e_L_law_510, e_L_law_511, e_L_law_512, e_L_law_513, e_L_law_515, e_L_law_516, e_L_law_517, e_L_law_518, e_L_law_522, e_L_law_524, e_L_law_525, e_L_law_526, e_L_law_528, e_L_law_529, e_L_law_530, e_L_law_531, e_L_law_532, e_L_law_534, e_L_law_535, e_L_law_536, e_L_law_540, e_L_law_542, e_L_law_546, e_L_law_548, e_L_law_551, e_L_law_552, e_L_law_553, e_L_law_555, e_L_law_558, e_L_law_559, e_L_law_560, e_L_law_561, e_L_law_563, e_L_law_564, e_L_law_565, e_L_law_568, e_L_law_569, e_L_law_570, c_L_law_519 _ _ w, c_L_law_537 _ m1, c_L_law_543 _ t3, hv2, eq_self, sA, sl, se, sA2, sl2, se2, fM2, fM3, oA, ol, i0l, c00, n10, lg_self, nI_1, nI_2, nI_3, nI_4', nI_5', nI_6', p1.1, p1.2.1, p1.2.2, p2.1, p2.2.1, p2.2.2, p3.1, p3.2.1, p3.2.2, p4.1, p4.2.1, p4.2.2, p5.1, p5.2.1, p5.2.2, p6.1, p6.2.1, p6.2.2, nem, su_get, z1e0, z2e0, z3e0, z4e0, z5e0, z0e1, zme0, Nat.reduceEqDiff, not_true_eq_false, and_self, false_or, or_false, or_self,  bI_eq0, bI_eq1, i10, i20, i30, i00, ne_eq, Decidable.not_not, true_and, and_true, false_and, and_false, xrd_ref, xrd_null, xrd_rf, xid_int, xcat_int, xcat_ref, xcat_null, xcat_long, xcat_rf, xfit_int, xfit_0, xfit_1, xfit_ref, xfit_null, xfit_rf, not_false_eq_true, ↓reduceIte, z01_0, z01_1, bI_01, true_or, or_true]
  · simp only [e_L_law_505, e_L_law_506, e_L_law_507, e_L_law_509, e_L_law_510, e_L_law_511, e_L_law_512, e_L_law_513, e_L_law_515, e_L_law_516, e_L_law_517, e_L_law_518, e_L_law_522, e_L_law_524, e_L_law_525, e_L_law_526, e_L_law_528, e_L_law_529, e_L_law_530, e_L_law_531, e_L_law_532, e_L_law_534, e_L_law_535, e_L_law_536, e_L_law_540, e_L_law_542, e_L_law_546, e_L_law_548, e_L_law_551, e_L_law_552, e_L_law_553, e_L_law_555, e_L_law_558, e_L_law_559, e_L_law_560, e_L_law_561, e_L_law_563, e_L_law_564, e_L_law_565, e_L_law_568, e_L_law_569, e_L_law_570, c_L_law_519 _ _ w, c_L_law_537 _ m1, c_L_law_543 _ t3, e0, eq_self, sA, sl, se, sA2, sl2, se2, fM2, fM3, oA, ol, i0l, c00, n10, lg_self, nI_1, nI_2, nI_3, nI_4', nI_5', nI_6', p1.1, p1.2.1, p1.2.2, p2.1, p2.2.1, p2.2.2, p3.1, p3.2.1, p3.2.2, p4.1, p4.2.1, p4.2.2, p5.1, p5.2.1, p5.2.2, p6.1, p6.2.1, p6.2.2, nem, su_get, z1e0, z2e0, z3e0, z4e0, z5e0, z0e1, zme0, Nat.reduceEqDiff, not_true_eq_false, and_self, false_or, or_false, or_self,  bI_eq0, bI_eq1, i10, i20, i30, i00, ne_eq, Decidable.not_not, true_and, and_true, false_and, and_false, xrd_ref, xrd_null, xrd_rf, xid_int, xcat_int, xcat_ref, xcat_null, xcat_long, xcat_rf, xfit_int, xfit_0, xfit_1, xfit_ref, xfit_null, xfit_rf, not_false_eq_true, ↓reduceIte, z01_0, z01_1, bI_01, true_or, or_true]
theorem C_road {e : Int32} (hi : i + 7 ≤ N) (hN : N ≤ 3584) (h : LI g b N xs n s s H) (w : Ev g 169 0 [some (.ref g.1), some (.int (xs (i + 1))), none] [] H (.inl (some (.int e)), H2)) (hL2 : LI g b N xs (n + 1) s s' H2) (m : MS g b N xs n s s' 121 [some (.ref (g.1 + 20)), some (.int (xs (i + 1)))] none) (ht : s' 0 0 = e) : NX g b N xs n i 573 H a5 a6 := by
  obtain ⟨H3, m1, hL3, hx⟩ := m H2 hL2
  have t3 := thr3 hL3 ht
  obtain ⟨sA, sl, se⟩ := LI_script h
  obtain ⟨sA2, sl2, se2⟩ := LI_script hL2
  have fM2 := (LI_facts hL2).2.1
  obtain ⟨-, fM3, ⟨oA, ol⟩, -⟩ := LI_facts hL3
  have p1 := ix (k := 1) hi hN (by decide)
  have p2 := ix (k := 2) hi hN (by decide)
  have p3 := ix (k := 3) hi hN (by decide)
  have p4 := ix (k := 4) hi hN (by decide)
  have p5 := ix (k := 5) hi hN (by decide)
  have p6 := ix (k := 6) hi hN (by decide)
  refine ⟨s', H3, some (.int e), a6, hL3, fun out => ?_⟩
  simp only [e_L_law_573, e_L_law_574, e_L_law_575, e_L_law_577, e_L_law_578, e_L_law_579, e_L_law_583, e_L_law_585, e_L_law_586, e_L_law_587, e_L_law_589, e_L_law_590, e_L_law_591, e_L_law_595, e_L_law_599, e_L_law_601, e_L_law_604, e_L_law_605, e_L_law_606, c_L_law_580 _ w, c_L_law_592 _ m1, c_L_law_596 _ t3, eq_self, sA, sl, se, sA2, sl2, se2, fM2, fM3, oA, ol, i0l, c00, n10, lg_self, nI_1, nI_2, nI_3, nI_4', nI_5', nI_6', p1.1, p1.2.1, p1.2.2, p2.1, p2.2.1, p2.2.2, p3.1, p3.2.1, p3.2.2, p4.1, p4.2.1, p4.2.2, p5.1, p5.2.1, p5.2.2, p6.1, p6.2.1, p6.2.2, nem, su_get, z1e0, z2e0, z3e0, z4e0, z5e0, z0e1, zme0, Nat.reduceEqDiff, not_true_eq_false, and_self, false_or, or_false, or_self,  bI_eq0, bI_eq1, i10, i20, i30, i00, ne_eq, Decidable.not_not, true_and, and_true, false_and, and_false, xrd_ref, xrd_null, xrd_rf, xid_int, xcat_int, xcat_ref, xcat_null, xcat_long, xcat_rf, xfit_int, xfit_0, xfit_1, xfit_ref, xfit_null, xfit_rf, not_false_eq_true, ↓reduceIte, z01_0, z01_1, bI_01, true_or, or_true]
theorem C_rest {e : Int32} (hi : i + 7 ≤ N) (hN : N ≤ 3584) (h : LI g b N xs n s s H) (w : Ev g 170 0 [some (.ref g.1), some (.int (xs (i + 1))), some (.int (xs (i + 2))), some (.int (xs (i + 3))), none] [] H (.inl (some (.int e)), H2)) (hL2 : LI g b N xs (n + 1) s s' H2) (m : MS g b N xs n s s' 122 [some (.ref (g.1 + 20)), some (.int (xs (i + 1))), some (.int (xs (i + 2))), some (.int (xs (i + 3)))] none) (ht : s' 0 0 = e) : NX g b N xs n i 609 H a5 a6 := by
  obtain ⟨H3, m1, hL3, hx⟩ := m H2 hL2
  have t3 := thr3 hL3 ht
  obtain ⟨sA, sl, se⟩ := LI_script h
  obtain ⟨sA2, sl2, se2⟩ := LI_script hL2
  have fM2 := (LI_facts hL2).2.1
  obtain ⟨-, fM3, ⟨oA, ol⟩, -⟩ := LI_facts hL3
  have p1 := ix (k := 1) hi hN (by decide)
  have p2 := ix (k := 2) hi hN (by decide)
  have p3 := ix (k := 3) hi hN (by decide)
  have p4 := ix (k := 4) hi hN (by decide)
  have p5 := ix (k := 5) hi hN (by decide)
  have p6 := ix (k := 6) hi hN (by decide)
  refine ⟨s', H3, some (.int e), a6, hL3, fun out => ?_⟩
  simp only [e_L_law_609, e_L_law_610, e_L_law_611, e_L_law_613, e_L_law_614, e_L_law_615, e_L_law_616, e_L_law_617, e_L_law_619, e_L_law_620, e_L_law_621, e_L_law_622, e_L_law_623, e_L_law_625, e_L_law_626, e_L_law_627, e_L_law_631, e_L_law_633, e_L_law_634, e_L_law_635, e_L_law_637, e_L_law_638, e_L_law_639, e_L_law_640, e_L_law_641, e_L_law_643, e_L_law_644, e_L_law_645, e_L_law_646, e_L_law_647, e_L_law_649, e_L_law_650, e_L_law_651, e_L_law_655, e_L_law_659, e_L_law_661, e_L_law_664, e_L_law_665, e_L_law_666, c_L_law_628 _ w, c_L_law_652 _ m1, c_L_law_656 _ t3, eq_self, sA, sl, se, sA2, sl2, se2, fM2, fM3, oA, ol, i0l, c00, n10, lg_self, nI_1, nI_2, nI_3, nI_4', nI_5', nI_6', p1.1, p1.2.1, p1.2.2, p2.1, p2.2.1, p2.2.2, p3.1, p3.2.1, p3.2.2, p4.1, p4.2.1, p4.2.2, p5.1, p5.2.1, p5.2.2, p6.1, p6.2.1, p6.2.2, nem, su_get, z1e0, z2e0, z3e0, z4e0, z5e0, z0e1, zme0, Nat.reduceEqDiff, not_true_eq_false, and_self, false_or, or_false, or_self,  bI_eq0, bI_eq1, i10, i20, i30, i00, ne_eq, Decidable.not_not, true_and, and_true, false_and, and_false, xrd_ref, xrd_null, xrd_rf, xid_int, xcat_int, xcat_ref, xcat_null, xcat_long, xcat_rf, xfit_int, xfit_0, xfit_1, xfit_ref, xfit_null, xfit_rf, not_false_eq_true, ↓reduceIte, z01_0, z01_1, bI_01, true_or, or_true]
theorem C_off {e r : Int32} (hi : i + 7 ≤ N) (hN : N ≤ 3584) (h : LI g b N xs n s s H) (w : Ev g 171 0 [some (.ref g.1), some (.int (xs (i + 1))), some (.int (xs (i + 2))), some (.int (ib (xs (i + 3)))), some (.ref (g.1 + 62)), none] [] H (.inl (some (.int e)), H2)) (hL2 : LI g b N xs (n + 1) s s' H2) (hv : e = 0 → xe H2 (g.1 + 62) 0 = .long (lb (r))) (m : MS g b N xs n s s' 123 [some (.ref (g.1 + 20)), some (.int (xs (i + 1))), some (.int (xs (i + 2))), some (.int (ib (xs (i + 3)))), none] (some (.int r))) (ht : s' 0 0 = e) : NX g b N xs n i 669 H a5 a6 := by
  obtain ⟨H3, m1, hL3, hx⟩ := m H2 hL2
  have t3 := thr3 hL3 ht
  obtain ⟨sA, sl, se⟩ := LI_script h
  obtain ⟨sA2, sl2, se2⟩ := LI_script hL2
  have fM2 := (LI_facts hL2).2.1
  obtain ⟨-, fM3, ⟨oA, ol⟩, -⟩ := LI_facts hL3
  have p1 := ix (k := 1) hi hN (by decide)
  have p2 := ix (k := 2) hi hN (by decide)
  have p3 := ix (k := 3) hi hN (by decide)
  have p4 := ix (k := 4) hi hN (by decide)
  have p5 := ix (k := 5) hi hN (by decide)
  have p6 := ix (k := 6) hi hN (by decide)
  refine ⟨s', H3, some (.int e), some (.int r), hL3, fun out => ?_⟩
  by_cases e0 : e = 0
  · have hv2 := hx.trans (hv e0)
    subst e0
    simp only [e_L_law_669, e_L_law_670, e_L_law_671, e_L_law_673, e_L_law_674, e_L_law_675, e_L_law_676, e_L_law_677, e_L_law_679, e_L_law_680, e_L_law_681, e_L_law_682, e_L_law_683, e_L_law_685, e_L_law_686, e_L_law_687, e_L_law_696, e_L_law_700, e_L_law_702, e_L_law_703, e_L_law_704, e_L_law_706, e_L_law_707, e_L_law_708, e_L_law_709, e_L_law_710, e_L_law_712, e_L_law_713, e_L_law_714, e_L_law_715, e_L_law_716, e_L_law_718, e_L_law_719, e_L_law_720, e_L_law_732, e_L_law_734, e_L_law_738, e_L_law_740, e_L_law_743, e_L_law_744, e_L_law_745, e_L_law_747, e_L_law_750, e_L_law_751, e_L_law_752, e_L_law_753, e_L_law_763, e_L_law_764, e_L_law_767, e_L_law_768, e_L_law_769, b_L_law_688, b_L_law_721, b_L_law_755, c_L_law_697 _ _ w, c_L_law_729 _ m1, c_L_law_735 _ t3, hv2, eq_self, sA, sl, se, sA2, sl2, se2, fM2, fM3, oA, ol, i0l, c00, n10, lg_self, nI_1, nI_2, nI_3, nI_4', nI_5', nI_6', p1.1, p1.2.1, p1.2.2, p2.1, p2.2.1, p2.2.2, p3.1, p3.2.1, p3.2.2, p4.1, p4.2.1, p4.2.2, p5.1, p5.2.1, p5.2.2, p6.1, p6.2.1, p6.2.2, nem, su_get, z1e0, z2e0, z3e0, z4e0, z5e0, z0e1, zme0, Nat.reduceEqDiff, not_true_eq_false, and_self, false_or, or_false, or_self,  bI_eq0, bI_eq1, i10, i20, i30, i00, ne_eq, Decidable.not_not, true_and, and_true, false_and, and_false, xrd_ref, xrd_null, xrd_rf, xid_int, xcat_int, xcat_ref, xcat_null, xcat_long, xcat_rf, xfit_int, xfit_0, xfit_1, xfit_ref, xfit_null, xfit_rf, not_false_eq_true, ↓reduceIte, z01_0, z01_1, bI_01, true_or, or_true]
  · simp only [e_L_law_669, e_L_law_670, e_L_law_671, e_L_law_673, e_L_law_674, e_L_law_675, e_L_law_676, e_L_law_677, e_L_law_679, e_L_law_680, e_L_law_681, e_L_law_682, e_L_law_683, e_L_law_685, e_L_law_686, e_L_law_687, e_L_law_696, e_L_law_700, e_L_law_702, e_L_law_703, e_L_law_704, e_L_law_706, e_L_law_707, e_L_law_708, e_L_law_709, e_L_law_710, e_L_law_712, e_L_law_713, e_L_law_714, e_L_law_715, e_L_law_716, e_L_law_718, e_L_law_719, e_L_law_720, e_L_law_732, e_L_law_734, e_L_law_738, e_L_law_740, e_L_law_743, e_L_law_744, e_L_law_745, e_L_law_747, e_L_law_750, e_L_law_751, e_L_law_752, e_L_law_753, e_L_law_763, e_L_law_764, e_L_law_767, e_L_law_768, e_L_law_769, b_L_law_688, b_L_law_721, b_L_law_755, c_L_law_697 _ _ w, c_L_law_729 _ m1, c_L_law_735 _ t3, e0, eq_self, sA, sl, se, sA2, sl2, se2, fM2, fM3, oA, ol, i0l, c00, n10, lg_self, nI_1, nI_2, nI_3, nI_4', nI_5', nI_6', p1.1, p1.2.1, p1.2.2, p2.1, p2.2.1, p2.2.2, p3.1, p3.2.1, p3.2.2, p4.1, p4.2.1, p4.2.2, p5.1, p5.2.1, p5.2.2, p6.1, p6.2.1, p6.2.2, nem, su_get, z1e0, z2e0, z3e0, z4e0, z5e0, z0e1, zme0, Nat.reduceEqDiff, not_true_eq_false, and_self, false_or, or_false, or_self,  bI_eq0, bI_eq1, i10, i20, i30, i00, ne_eq, Decidable.not_not, true_and, and_true, false_and, and_false, xrd_ref, xrd_null, xrd_rf, xid_int, xcat_int, xcat_ref, xcat_null, xcat_long, xcat_rf, xfit_int, xfit_0, xfit_1, xfit_ref, xfit_null, xfit_rf, not_false_eq_true, ↓reduceIte, z01_0, z01_1, bI_01, true_or, or_true]
theorem C_will {e r : Int32} (hi : i + 7 ≤ N) (hN : N ≤ 3584) (h : LI g b N xs n s s H) (w : Ev g 172 0 [some (.ref g.1), some (.int (xs (i + 1))), some (.int (ib (xs (i + 2)))), some (.ref (g.1 + 62)), none] [] H (.inl (some (.int e)), H2)) (hL2 : LI g b N xs (n + 1) s s' H2) (hv : e = 0 → xe H2 (g.1 + 62) 0 = .long (lb (r))) (m : MS g b N xs n s s' 124 [some (.ref (g.1 + 20)), some (.int (xs (i + 1))), some (.int (ib (xs (i + 2)))), none] (some (.int r))) (ht : s' 0 0 = e) : NX g b N xs n i 772 H a5 a6 := by
  obtain ⟨H3, m1, hL3, hx⟩ := m H2 hL2
  have t3 := thr3 hL3 ht
  obtain ⟨sA, sl, se⟩ := LI_script h
  obtain ⟨sA2, sl2, se2⟩ := LI_script hL2
  have fM2 := (LI_facts hL2).2.1
  obtain ⟨-, fM3, ⟨oA, ol⟩, -⟩ := LI_facts hL3
  have p1 := ix (k := 1) hi hN (by decide)
  have p2 := ix (k := 2) hi hN (by decide)
  have p3 := ix (k := 3) hi hN (by decide)
  have p4 := ix (k := 4) hi hN (by decide)
  have p5 := ix (k := 5) hi hN (by decide)
  have p6 := ix (k := 6) hi hN (by decide)
  refine ⟨s', H3, some (.int e), some (.int r), hL3, fun out => ?_⟩
  by_cases e0 : e = 0
  · have hv2 := hx.trans (hv e0)
    subst e0
    simp only [e_L_law_772, e_L_law_773, e_L_law_774, e_L_law_776, e_L_law_777, e_L_law_778, e_L_law_779, e_L_law_780, e_L_law_782, e_L_law_783, e_L_law_784, e_L_law_793, e_L_law_797, e_L_law_799, e_L_law_800, e_L_law_801, e_L_law_803, e_L_law_804, e_L_law_805, e_L_law_806, e_L_law_807, e_L_law_809, e_L_law_810, e_L_law_811, e_L_law_823, e_L_law_825, e_L_law_829, e_L_law_831, e_L_law_834, e_L_law_835, e_L_law_836, e_L_law_838, e_L_law_841, e_L_law_842, e_L_law_843, e_L_law_844, e_L_law_854, e_L_law_855, e_L_law_858, e_L_law_859, e_L_law_860, b_L_law_785, b_L_law_812, b_L_law_846, c_L_law_794 _ _ w, c_L_law_820 _ m1, c_L_law_826 _ t3, hv2, eq_self, sA, sl, se, sA2, sl2, se2, fM2, fM3, oA, ol, i0l, c00, n10, lg_self, nI_1, nI_2, nI_3, nI_4', nI_5', nI_6', p1.1, p1.2.1, p1.2.2, p2.1, p2.2.1, p2.2.2, p3.1, p3.2.1, p3.2.2, p4.1, p4.2.1, p4.2.2, p5.1, p5.2.1, p5.2.2, p6.1, p6.2.1, p6.2.2, nem, su_get, z1e0, z2e0, z3e0, z4e0, z5e0, z0e1, zme0, Nat.reduceEqDiff, not_true_eq_false, and_self, false_or, or_false, or_self,  bI_eq0, bI_eq1, i10, i20, i30, i00, ne_eq, Decidable.not_not, true_and, and_true, false_and, and_false, xrd_ref, xrd_null, xrd_rf, xid_int, xcat_int, xcat_ref, xcat_null, xcat_long, xcat_rf, xfit_int, xfit_0, xfit_1, xfit_ref, xfit_null, xfit_rf, not_false_eq_true, ↓reduceIte, z01_0, z01_1, bI_01, true_or, or_true]
  · simp only [e_L_law_772, e_L_law_773, e_L_law_774, e_L_law_776, e_L_law_777, e_L_law_778, e_L_law_779, e_L_law_780, e_L_law_782, e_L_law_783, e_L_law_784, e_L_law_793, e_L_law_797, e_L_law_799, e_L_law_800, e_L_law_801, e_L_law_803, e_L_law_804, e_L_law_805, e_L_law_806, e_L_law_807, e_L_law_809, e_L_law_810, e_L_law_811, e_L_law_823, e_L_law_825, e_L_law_829, e_L_law_831, e_L_law_834, e_L_law_835, e_L_law_836, e_L_law_838, e_L_law_841, e_L_law_842, e_L_law_843, e_L_law_844, e_L_law_854, e_L_law_855, e_L_law_858, e_L_law_859, e_L_law_860, b_L_law_785, b_L_law_812, b_L_law_846, c_L_law_794 _ _ w, c_L_law_820 _ m1, c_L_law_826 _ t3, e0, eq_self, sA, sl, se, sA2, sl2, se2, fM2, fM3, oA, ol, i0l, c00, n10, lg_self, nI_1, nI_2, nI_3, nI_4', nI_5', nI_6', p1.1, p1.2.1, p1.2.2, p2.1, p2.2.1, p2.2.2, p3.1, p3.2.1, p3.2.2, p4.1, p4.2.1, p4.2.2, p5.1, p5.2.1, p5.2.2, p6.1, p6.2.1, p6.2.2, nem, su_get, z1e0, z2e0, z3e0, z4e0, z5e0, z0e1, zme0, Nat.reduceEqDiff, not_true_eq_false, and_self, false_or, or_false, or_self,  bI_eq0, bI_eq1, i10, i20, i30, i00, ne_eq, Decidable.not_not, true_and, and_true, false_and, and_false, xrd_ref, xrd_null, xrd_rf, xid_int, xcat_int, xcat_ref, xcat_null, xcat_long, xcat_rf, xfit_int, xfit_0, xfit_1, xfit_ref, xfit_null, xfit_rf, not_false_eq_true, ↓reduceIte, z01_0, z01_1, bI_01, true_or, or_true]
theorem C_hour {r : Int32} (hi : i + 7 ≤ N) (hN : N ≤ 3584) (h : LI g b N xs n s s H) (w : Ev g 65 0 [some (.ref g.1), none] [] H (.inl (some (.int r)), H2)) (hL2 : LI g b N xs (n + 1) s s' H2) (m : MS g b N xs n s s' 138 [some (.ref (g.1 + 20)), none, none, none, none] (some (.int r))) : NX g b N xs n i 863 H a5 a6 := by
  obtain ⟨H3, m1, hL3, hx⟩ := m H2 hL2
  obtain ⟨sA, sl, se⟩ := LI_script h
  obtain ⟨sA2, sl2, se2⟩ := LI_script hL2
  have fO := (LI_facts h).1
  have fM2 := (LI_facts hL2).2.1
  have p1 := ix (k := 1) hi hN (by decide)
  have p2 := ix (k := 2) hi hN (by decide)
  have p3 := ix (k := 3) hi hN (by decide)
  have p4 := ix (k := 4) hi hN (by decide)
  have p5 := ix (k := 5) hi hN (by decide)
  have p6 := ix (k := 6) hi hN (by decide)
  refine ⟨s', H3, a5, a6, hL3, fun out => ?_⟩
  simp only [e_L_law_863, e_L_law_867, e_L_law_871, e_L_law_874, e_L_law_875, c_L_law_864 _ w, c_L_law_868 _ m1, sA, sl, se, sA2, sl2, se2, fO, fM2, eq_self, nI_1, nI_2, nI_3, nI_4', nI_5', nI_6', p1.1, p1.2.1, p1.2.2, p2.1, p2.2.1, p2.2.2, p3.1, p3.2.1, p3.2.2, p4.1, p4.2.1, p4.2.2, p5.1, p5.2.1, p5.2.2, p6.1, p6.2.1, p6.2.2, nem, su_get, z1e0, z2e0, z3e0, z4e0, z5e0, z0e1, zme0, Nat.reduceEqDiff, not_true_eq_false, and_self, false_or, or_false, or_self,  bI_eq0, bI_eq1, i10, i20, i30, i00, ne_eq, Decidable.not_not, true_and, and_true, false_and, and_false, xrd_ref, xrd_null, xrd_rf, xid_int, xcat_int, xcat_ref, xcat_null, xcat_long, xcat_rf, xfit_int, xfit_0, xfit_1, xfit_ref, xfit_null, xfit_rf, not_false_eq_true, ↓reduceIte, z01_0, z01_1, bI_01, true_or, or_true]
theorem C_back {e r : Int32} (hi : i + 7 ≤ N) (hN : N ≤ 3584) (h : LI g b N xs n s s H) (w : Ev g 173 0 [some (.ref g.1), some (.int (xs (i + 1))), some (.ref (g.1 + 62)), none] [] H (.inl (some (.int e)), H2)) (hL2 : LI g b N xs (n + 1) s s' H2) (hv : e = 0 → xe H2 (g.1 + 62) 0 = .long (lb (r))) (m : MS g b N xs n s s' 149 [some (.ref (g.1 + 20)), some (.int (xs (i + 1))), none, none, none, none] (some (.int r))) (ht : s' 0 0 = e) : NX g b N xs n i 876 H a5 a6 := by
  obtain ⟨H3, m1, hL3, hx⟩ := m H2 hL2
  have t3 := thr3 hL3 ht
  obtain ⟨sA, sl, se⟩ := LI_script h
  obtain ⟨sA2, sl2, se2⟩ := LI_script hL2
  have fM2 := (LI_facts hL2).2.1
  obtain ⟨-, fM3, ⟨oA, ol⟩, -⟩ := LI_facts hL3
  have p1 := ix (k := 1) hi hN (by decide)
  have p2 := ix (k := 2) hi hN (by decide)
  have p3 := ix (k := 3) hi hN (by decide)
  have p4 := ix (k := 4) hi hN (by decide)
  have p5 := ix (k := 5) hi hN (by decide)
  have p6 := ix (k := 6) hi hN (by decide)
  refine ⟨s', H3, some (.int e), some (.int r), hL3, fun out => ?_⟩
  by_cases e0 : e = 0
  · have hv2 := hx.trans (hv e0)
    subst e0
    simp only [e_L_law_876, e_L_law_877, e_L_law_878, e_L_law_880, e_L_law_881, e_L_law_882, e_L_law_883, e_L_law_887, e_L_law_889, e_L_law_890, e_L_law_891, e_L_law_893, e_L_law_894, e_L_law_895, e_L_law_899, e_L_law_901, e_L_law_905, e_L_law_907, e_L_law_910, e_L_law_911, e_L_law_912, e_L_law_914, e_L_law_917, e_L_law_918, e_L_law_919, e_L_law_920, e_L_law_930, e_L_law_931, e_L_law_934, e_L_law_935, e_L_law_936, b_L_law_922, c_L_law_884 _ _ w, c_L_law_896 _ m1, c_L_law_902 _ t3, hv2, eq_self, sA, sl, se, sA2, sl2, se2, fM2, fM3, oA, ol, i0l, c00, n10, lg_self, nI_1, nI_2, nI_3, nI_4', nI_5', nI_6', p1.1, p1.2.1, p1.2.2, p2.1, p2.2.1, p2.2.2, p3.1, p3.2.1, p3.2.2, p4.1, p4.2.1, p4.2.2, p5.1, p5.2.1, p5.2.2, p6.1, p6.2.1, p6.2.2, nem, su_get, z1e0, z2e0, z3e0, z4e0, z5e0, z0e1, zme0, Nat.reduceEqDiff, not_true_eq_false, and_self, false_or, or_false, or_self,  bI_eq0, bI_eq1, i10, i20, i30, i00, ne_eq, Decidable.not_not, true_and, and_true, false_and, and_false, xrd_ref, xrd_null, xrd_rf, xid_int, xcat_int, xcat_ref, xcat_null, xcat_long, xcat_rf, xfit_int, xfit_0, xfit_1, xfit_ref, xfit_null, xfit_rf, not_false_eq_true, ↓reduceIte, z01_0, z01_1, bI_01, true_or, or_true]
  · simp only [e_L_law_876, e_L_law_877, e_L_law_878, e_L_law_880, e_L_law_881, e_L_law_882, e_L_law_883, e_L_law_887, e_L_law_889, e_L_law_890, e_L_law_891, e_L_law_893, e_L_law_894, e_L_law_895, e_L_law_899, e_L_law_901, e_L_law_905, e_L_law_907, e_L_law_910, e_L_law_911, e_L_law_912, e_L_law_914, e_L_law_917, e_L_law_918, e_L_law_919, e_L_law_920, e_L_law_930, e_L_law_931, e_L_law_934, e_L_law_935, e_L_law_936, b_L_law_922, c_L_law_884 _ _ w, c_L_law_896 _ m1, c_L_law_902 _ t3, e0, eq_self, sA, sl, se, sA2, sl2, se2, fM2, fM3, oA, ol, i0l, c00, n10, lg_self, nI_1, nI_2, nI_3, nI_4', nI_5', nI_6', p1.1, p1.2.1, p1.2.2, p2.1, p2.2.1, p2.2.2, p3.1, p3.2.1, p3.2.2, p4.1, p4.2.1, p4.2.2, p5.1, p5.2.1, p5.2.2, p6.1, p6.2.1, p6.2.2, nem, su_get, z1e0, z2e0, z3e0, z4e0, z5e0, z0e1, zme0, Nat.reduceEqDiff, not_true_eq_false, and_self, false_or, or_false, or_self,  bI_eq0, bI_eq1, i10, i20, i30, i00, ne_eq, Decidable.not_not, true_and, and_true, false_and, and_false, xrd_ref, xrd_null, xrd_rf, xid_int, xcat_int, xcat_ref, xcat_null, xcat_long, xcat_rf, xfit_int, xfit_0, xfit_1, xfit_ref, xfit_null, xfit_rf, not_false_eq_true, ↓reduceIte, z01_0, z01_1, bI_01, true_or, or_true]
theorem C_swap {e r : Int32} (hi : i + 7 ≤ N) (hN : N ≤ 3584) (h : LI g b N xs n s s H) (w : Ev g 174 0 [some (.ref g.1), some (.int (xs (i + 1))), some (.int (xs (i + 2))), some (.ref (g.1 + 62)), none] [] H (.inl (some (.int e)), H2)) (hL2 : LI g b N xs (n + 1) s s' H2) (hv : e = 0 → xe H2 (g.1 + 62) 0 = .long (lb (r))) (m : MS g b N xs n s s' 151 [some (.ref (g.1 + 20)), some (.int (xs (i + 1))), some (.int (xs (i + 2))), none, none] (some (.int r))) (ht : s' 0 0 = e) : NX g b N xs n i 939 H a5 a6 := by
  obtain ⟨H3, m1, hL3, hx⟩ := m H2 hL2
  have t3 := thr3 hL3 ht
  obtain ⟨sA, sl, se⟩ := LI_script h
  obtain ⟨sA2, sl2, se2⟩ := LI_script hL2
  have fM2 := (LI_facts hL2).2.1
  obtain ⟨-, fM3, ⟨oA, ol⟩, -⟩ := LI_facts hL3
  have p1 := ix (k := 1) hi hN (by decide)
  have p2 := ix (k := 2) hi hN (by decide)
  have p3 := ix (k := 3) hi hN (by decide)
  have p4 := ix (k := 4) hi hN (by decide)
  have p5 := ix (k := 5) hi hN (by decide)
  have p6 := ix (k := 6) hi hN (by decide)
  refine ⟨s', H3, some (.int e), some (.int r), hL3, fun out => ?_⟩
  by_cases e0 : e = 0
  · have hv2 := hx.trans (hv e0)
    subst e0
    simp only [e_L_law_939, e_L_law_940, e_L_law_941, e_L_law_943, e_L_law_944, e_L_law_945, e_L_law_946, e_L_law_947, e_L_law_949, e_L_law_950, e_L_law_951, e_L_law_952, e_L_law_956, e_L_law_958, e_L_law_959, e_L_law_960, e_L_law_962, e_L_law_963, e_L_law_964, e_L_law_965, e_L_law_966, e_L_law_968, e_L_law_969, e_L_law_970, e_L_law_974, e_L_law_976, e_L_law_980, e_L_law_982, e_L_law_985, e_L_law_986, e_L_law_987, e_L_law_989, e_L_law_992, e_L_law_993, e_L_law_994, e_L_law_995, e_L_law_1005, e_L_law_1006, e_L_law_1009, e_L_law_1010, e_L_law_1011, b_L_law_997, c_L_law_953 _ _ w, c_L_law_971 _ m1, c_L_law_977 _ t3, hv2, eq_self, sA, sl, se, sA2, sl2, se2, fM2, fM3, oA, ol, i0l, c00, n10, lg_self, nI_1, nI_2, nI_3, nI_4', nI_5', nI_6', p1.1, p1.2.1, p1.2.2, p2.1, p2.2.1, p2.2.2, p3.1, p3.2.1, p3.2.2, p4.1, p4.2.1, p4.2.2, p5.1, p5.2.1, p5.2.2, p6.1, p6.2.1, p6.2.2, nem, su_get, z1e0, z2e0, z3e0, z4e0, z5e0, z0e1, zme0, Nat.reduceEqDiff, not_true_eq_false, and_self, false_or, or_false, or_self,  bI_eq0, bI_eq1, i10, i20, i30, i00, ne_eq, Decidable.not_not, true_and, and_true, false_and, and_false, xrd_ref, xrd_null, xrd_rf, xid_int, xcat_int, xcat_ref, xcat_null, xcat_long, xcat_rf, xfit_int, xfit_0, xfit_1, xfit_ref, xfit_null, xfit_rf, not_false_eq_true, ↓reduceIte, z01_0, z01_1, bI_01, true_or, or_true]
  · simp only [e_L_law_939, e_L_law_940, e_L_law_941, e_L_law_943, e_L_law_944, e_L_law_945, e_L_law_946, e_L_law_947, e_L_law_949, e_L_law_950, e_L_law_951, e_L_law_952, e_L_law_956, e_L_law_958, e_L_law_959, e_L_law_960, e_L_law_962, e_L_law_963, e_L_law_964, e_L_law_965, e_L_law_966, e_L_law_968, e_L_law_969, e_L_law_970, e_L_law_974, e_L_law_976, e_L_law_980, e_L_law_982, e_L_law_985, e_L_law_986, e_L_law_987, e_L_law_989, e_L_law_992, e_L_law_993, e_L_law_994, e_L_law_995, e_L_law_1005, e_L_law_1006, e_L_law_1009, e_L_law_1010, e_L_law_1011, b_L_law_997, c_L_law_953 _ _ w, c_L_law_971 _ m1, c_L_law_977 _ t3, e0, eq_self, sA, sl, se, sA2, sl2, se2, fM2, fM3, oA, ol, i0l, c00, n10, lg_self, nI_1, nI_2, nI_3, nI_4', nI_5', nI_6', p1.1, p1.2.1, p1.2.2, p2.1, p2.2.1, p2.2.2, p3.1, p3.2.1, p3.2.2, p4.1, p4.2.1, p4.2.2, p5.1, p5.2.1, p5.2.2, p6.1, p6.2.1, p6.2.2, nem, su_get, z1e0, z2e0, z3e0, z4e0, z5e0, z0e1, zme0, Nat.reduceEqDiff, not_true_eq_false, and_self, false_or, or_false, or_self,  bI_eq0, bI_eq1, i10, i20, i30, i00, ne_eq, Decidable.not_not, true_and, and_true, false_and, and_false, xrd_ref, xrd_null, xrd_rf, xid_int, xcat_int, xcat_ref, xcat_null, xcat_long, xcat_rf, xfit_int, xfit_0, xfit_1, xfit_ref, xfit_null, xfit_rf, not_false_eq_true, ↓reduceIte, z01_0, z01_1, bI_01, true_or, or_true]
theorem C_undo {r : Int32} (hi : i + 7 ≤ N) (hN : N ≤ 3584) (h : LI g b N xs n s s H) (w : Ev g 68 0 [some (.ref g.1), none] [] H (.inl (some (.int r)), H2)) (hL2 : LI g b N xs (n + 1) s s' H2) (m : MS g b N xs n s s' 137 [some (.ref (g.1 + 20))] (some (.int r))) : NX g b N xs n i 1014 H a5 a6 := by
  obtain ⟨H3, m1, hL3, hx⟩ := m H2 hL2
  obtain ⟨sA, sl, se⟩ := LI_script h
  obtain ⟨sA2, sl2, se2⟩ := LI_script hL2
  have fO := (LI_facts h).1
  have fM2 := (LI_facts hL2).2.1
  have p1 := ix (k := 1) hi hN (by decide)
  have p2 := ix (k := 2) hi hN (by decide)
  have p3 := ix (k := 3) hi hN (by decide)
  have p4 := ix (k := 4) hi hN (by decide)
  have p5 := ix (k := 5) hi hN (by decide)
  have p6 := ix (k := 6) hi hN (by decide)
  refine ⟨s', H3, a5, a6, hL3, fun out => ?_⟩
  simp only [e_L_law_1014, e_L_law_1018, e_L_law_1022, e_L_law_1025, e_L_law_1026, c_L_law_1015 _ w, c_L_law_1019 _ m1, sA, sl, se, sA2, sl2, se2, fO, fM2, eq_self, nI_1, nI_2, nI_3, nI_4', nI_5', nI_6', p1.1, p1.2.1, p1.2.2, p2.1, p2.2.1, p2.2.2, p3.1, p3.2.1, p3.2.2, p4.1, p4.2.1, p4.2.2, p5.1, p5.2.1, p5.2.2, p6.1, p6.2.1, p6.2.2, nem, su_get, z1e0, z2e0, z3e0, z4e0, z5e0, z0e1, zme0, Nat.reduceEqDiff, not_true_eq_false, and_self, false_or, or_false, or_self,  bI_eq0, bI_eq1, i10, i20, i30, i00, ne_eq, Decidable.not_not, true_and, and_true, false_and, and_false, xrd_ref, xrd_null, xrd_rf, xid_int, xcat_int, xcat_ref, xcat_null, xcat_long, xcat_rf, xfit_int, xfit_0, xfit_1, xfit_ref, xfit_null, xfit_rf, not_false_eq_true, ↓reduceIte, z01_0, z01_1, bI_01, true_or, or_true]
theorem C_may {e r : Int32} (hi : i + 7 ≤ N) (hN : N ≤ 3584) (h : LI g b N xs n s s H) (w : Ev g 175 0 [some (.ref g.1), some (.int (xs (i + 1))), some (.int (xs (i + 2))), some (.ref (g.1 + 62)), none] [] H (.inl (some (.int e)), H2)) (hL2 : LI g b N xs (n + 1) s s' H2) (hv : e = 0 → xe H2 (g.1 + 62) 0 = .long (lb (r))) (m : MS g b N xs n s s' 152 [some (.ref (g.1 + 20)), some (.int (xs (i + 1))), some (.int (xs (i + 2)))] (some (.int r))) (ht : s' 0 0 = e) : NX g b N xs n i 1027 H a5 a6 := by
  obtain ⟨H3, m1, hL3, hx⟩ := m H2 hL2
  have t3 := thr3 hL3 ht
  obtain ⟨sA, sl, se⟩ := LI_script h
  obtain ⟨sA2, sl2, se2⟩ := LI_script hL2
  have fM2 := (LI_facts hL2).2.1
  obtain ⟨-, fM3, ⟨oA, ol⟩, -⟩ := LI_facts hL3
  have p1 := ix (k := 1) hi hN (by decide)
  have p2 := ix (k := 2) hi hN (by decide)
  have p3 := ix (k := 3) hi hN (by decide)
  have p4 := ix (k := 4) hi hN (by decide)
  have p5 := ix (k := 5) hi hN (by decide)
  have p6 := ix (k := 6) hi hN (by decide)
  refine ⟨s', H3, some (.int e), some (.int r), hL3, fun out => ?_⟩
  by_cases e0 : e = 0
  · have hv2 := hx.trans (hv e0)
    subst e0
    simp only [e_L_law_1027, e_L_law_1028, e_L_law_1029, e_L_law_1031, e_L_law_1032, e_L_law_1033, e_L_law_1034, e_L_law_1035, e_L_law_1037, e_L_law_1038, e_L_law_1039, e_L_law_1040, e_L_law_1044, e_L_law_1046, e_L_law_1047, e_L_law_1048, e_L_law_1050, e_L_law_1051, e_L_law_1052, e_L_law_1053, e_L_law_1054, e_L_law_1056, e_L_law_1057, e_L_law_1058, e_L_law_1062, e_L_law_1064, e_L_law_1068, e_L_law_1070, e_L_law_1073, e_L_law_1074, e_L_law_1075, e_L_law_1077, e_L_law_1080, e_L_law_1081, e_L_law_1082, e_L_law_1083, e_L_law_1093, e_L_law_1094, e_L_law_1097, e_L_law_1098, e_L_law_1099, b_L_law_1085, c_L_law_1041 _ _ w, c_L_law_1059 _ m1, c_L_law_1065 _ t3, hv2, eq_self, sA, sl, se, sA2, sl2, se2, fM2, fM3, oA, ol, i0l, c00, n10, lg_self, nI_1, nI_2, nI_3, nI_4', nI_5', nI_6', p1.1, p1.2.1, p1.2.2, p2.1, p2.2.1, p2.2.2, p3.1, p3.2.1, p3.2.2, p4.1, p4.2.1, p4.2.2, p5.1, p5.2.1, p5.2.2, p6.1, p6.2.1, p6.2.2, nem, su_get, z1e0, z2e0, z3e0, z4e0, z5e0, z0e1, zme0, Nat.reduceEqDiff, not_true_eq_false, and_self, false_or, or_false, or_self,  bI_eq0, bI_eq1, i10, i20, i30, i00, ne_eq, Decidable.not_not, true_and, and_true, false_and, and_false, xrd_ref, xrd_null, xrd_rf, xid_int, xcat_int, xcat_ref, xcat_null, xcat_long, xcat_rf, xfit_int, xfit_0, xfit_1, xfit_ref, xfit_null, xfit_rf, not_false_eq_true, ↓reduceIte, z01_0, z01_1, bI_01, true_or, or_true]
  · simp only [e_L_law_1027, e_L_law_1028, e_L_law_1029, e_L_law_1031, e_L_law_1032, e_L_law_1033, e_L_law_1034, e_L_law_1035, e_L_law_1037, e_L_law_1038, e_L_law_1039, e_L_law_1040, e_L_law_1044, e_L_law_1046, e_L_law_1047, e_L_law_1048, e_L_law_1050, e_L_law_1051, e_L_law_1052, e_L_law_1053, e_L_law_1054, e_L_law_1056, e_L_law_1057, e_L_law_1058, e_L_law_1062, e_L_law_1064, e_L_law_1068, e_L_law_1070, e_L_law_1073, e_L_law_1074, e_L_law_1075, e_L_law_1077, e_L_law_1080, e_L_law_1081, e_L_law_1082, e_L_law_1083, e_L_law_1093, e_L_law_1094, e_L_law_1097, e_L_law_1098, e_L_law_1099, b_L_law_1085, c_L_law_1041 _ _ w, c_L_law_1059 _ m1, c_L_law_1065 _ t3, e0, eq_self, sA, sl, se, sA2, sl2, se2, fM2, fM3, oA, ol, i0l, c00, n10, lg_self, nI_1, nI_2, nI_3, nI_4', nI_5', nI_6', p1.1, p1.2.1, p1.2.2, p2.1, p2.2.1, p2.2.2, p3.1, p3.2.1, p3.2.2, p4.1, p4.2.1, p4.2.2, p5.1, p5.2.1, p5.2.2, p6.1, p6.2.1, p6.2.2, nem, su_get, z1e0, z2e0, z3e0, z4e0, z5e0, z0e1, zme0, Nat.reduceEqDiff, not_true_eq_false, and_self, false_or, or_false, or_self,  bI_eq0, bI_eq1, i10, i20, i30, i00, ne_eq, Decidable.not_not, true_and, and_true, false_and, and_false, xrd_ref, xrd_null, xrd_rf, xid_int, xcat_int, xcat_ref, xcat_null, xcat_long, xcat_rf, xfit_int, xfit_0, xfit_1, xfit_ref, xfit_null, xfit_rf, not_false_eq_true, ↓reduceIte, z01_0, z01_1, bI_01, true_or, or_true]
theorem C_window {e r : Int32} (hi : i + 7 ≤ N) (hN : N ≤ 3584) (h : LI g b N xs n s s H) (w : Ev g 176 0 [some (.ref g.1), some (.int (xs (i + 1))), some (.int (xs (i + 2))), some (.ref (g.1 + 62)), none] [] H (.inl (some (.int e)), H2)) (hL2 : LI g b N xs (n + 1) s s' H2) (hv : e = 0 → xe H2 (g.1 + 62) 0 = .long (lb (r))) (m : MS g b N xs n s s' 153 [some (.ref (g.1 + 20)), some (.int (xs (i + 1))), some (.int (xs (i + 2)))] (some (.int r))) (ht : s' 0 0 = e) : NX g b N xs n i 1102 H a5 a6 := by
  obtain ⟨H3, m1, hL3, hx⟩ := m H2 hL2
  have t3 := thr3 hL3 ht
  obtain ⟨sA, sl, se⟩ := LI_script h
  obtain ⟨sA2, sl2, se2⟩ := LI_script hL2
  have fM2 := (LI_facts hL2).2.1
  obtain ⟨-, fM3, ⟨oA, ol⟩, -⟩ := LI_facts hL3
  have p1 := ix (k := 1) hi hN (by decide)
  have p2 := ix (k := 2) hi hN (by decide)
  have p3 := ix (k := 3) hi hN (by decide)
  have p4 := ix (k := 4) hi hN (by decide)
  have p5 := ix (k := 5) hi hN (by decide)
  have p6 := ix (k := 6) hi hN (by decide)
  refine ⟨s', H3, some (.int e), some (.int r), hL3, fun out => ?_⟩
  by_cases e0 : e = 0
  · have hv2 := hx.trans (hv e0)
    subst e0
    simp only [e_L_law_1102, e_L_law_1103, e_L_law_1104, e_L_law_1106, e_L_law_1107, e_L_law_1108, e_L_law_1109, e_L_law_1110, e_L_law_1112, e_L_law_1113, e_L_law_1114, e_L_law_1115, e_L_law_1119, e_L_law_1121, e_L_law_1122, e_L_law_1123, e_L_law_1125, e_L_law_1126, e_L_law_1127, e_L_law_1128, e_L_law_1129, e_L_law_1131, e_L_law_1132, e_L_law_1133, e_L_law_1137, e_L_law_1139, e_L_law_1143, e_L_law_1145, e_L_law_1148, e_L_law_1149, e_L_law_1150, e_L_law_1152, e_L_law_1155, e_L_law_1156, e_L_law_1157, e_L_law_1158, e_L_law_1168, e_L_law_1169, e_L_law_1172, e_L_law_1173, e_L_law_1174, b_L_law_1160, c_L_law_1116 _ _ w, c_L_law_1134 _ m1, c_L_law_1140 _ t3, hv2, eq_self, sA, sl, se, sA2, sl2, se2, fM2, fM3, oA, ol, i0l, c00, n10, lg_self, nI_1, nI_2, nI_3, nI_4', nI_5', nI_6', p1.1, p1.2.1, p1.2.2, p2.1, p2.2.1, p2.2.2, p3.1, p3.2.1, p3.2.2, p4.1, p4.2.1, p4.2.2, p5.1, p5.2.1, p5.2.2, p6.1, p6.2.1, p6.2.2, nem, su_get, z1e0, z2e0, z3e0, z4e0, z5e0, z0e1, zme0, Nat.reduceEqDiff, not_true_eq_false, and_self, false_or, or_false, or_self,  bI_eq0, bI_eq1, i10, i20, i30, i00, ne_eq, Decidable.not_not, true_and, and_true, false_and, and_false, xrd_ref, xrd_null, xrd_rf, xid_int, xcat_int, xcat_ref, xcat_null, xcat_long, xcat_rf, xfit_int, xfit_0, xfit_1, xfit_ref, xfit_null, xfit_rf, not_false_eq_true, ↓reduceIte, z01_0, z01_1, bI_01, true_or, or_true]
  · simp only [e_L_law_1102, e_L_law_1103, e_L_law_1104, e_L_law_1106, e_L_law_1107, e_L_law_1108, e_L_law_1109, e_L_law_1110, e_L_law_1112, e_L_law_1113, e_L_law_1114, e_L_law_1115, e_L_law_1119, e_L_law_1121, e_L_law_1122, e_L_law_1123, e_L_law_1125, e_L_law_1126, e_L_law_1127, e_L_law_1128, e_L_law_1129, e_L_law_1131, e_L_law_1132, e_L_law_1133, e_L_law_1137, e_L_law_1139, e_L_law_1143, e_L_law_1145, e_L_law_1148, e_L_law_1149, e_L_law_1150, e_L_law_1152, e_L_law_1155, e_L_law_1156, e_L_law_1157, e_L_law_1158, e_L_law_1168, e_L_law_1169, e_L_law_1172, e_L_law_1173, e_L_law_1174, b_L_law_1160, c_L_law_1116 _ _ w, c_L_law_1134 _ m1, c_L_law_1140 _ t3, e0, eq_self, sA, sl, se, sA2, sl2, se2, fM2, fM3, oA, ol, i0l, c00, n10, lg_self, nI_1, nI_2, nI_3, nI_4', nI_5', nI_6', p1.1, p1.2.1, p1.2.2, p2.1, p2.2.1, p2.2.2, p3.1, p3.2.1, p3.2.2, p4.1, p4.2.1, p4.2.2, p5.1, p5.2.1, p5.2.2, p6.1, p6.2.1, p6.2.2, nem, su_get, z1e0, z2e0, z3e0, z4e0, z5e0, z0e1, zme0, Nat.reduceEqDiff, not_true_eq_false, and_self, false_or, or_false, or_self,  bI_eq0, bI_eq1, i10, i20, i30, i00, ne_eq, Decidable.not_not, true_and, and_true, false_and, and_false, xrd_ref, xrd_null, xrd_rf, xid_int, xcat_int, xcat_ref, xcat_null, xcat_long, xcat_rf, xfit_int, xfit_0, xfit_1, xfit_ref, xfit_null, xfit_rf, not_false_eq_true, ↓reduceIte, z01_0, z01_1, bI_01, true_or, or_true]
theorem C_seats {r : Int32} (hi : i + 7 ≤ N) (hN : N ≤ 3584) (h : LI g b N xs n s s H) (w : Ev g 71 0 [some (.ref g.1), some (.int (xs (i + 1))), some (.int (ib (xs (i + 2))))] [] H (.inl (some (.int r)), H2)) (hL2 : LI g b N xs (n + 1) s s' H2) (m : MS g b N xs n s s' 154 [some (.ref (g.1 + 20)), some (.int (xs (i + 1))), some (.int (ib (xs (i + 2))))] (some (.int r))) : NX g b N xs n i 1177 H a5 a6 := by
  obtain ⟨H3, m1, hL3, hx⟩ := m H2 hL2
  obtain ⟨sA, sl, se⟩ := LI_script h
  obtain ⟨sA2, sl2, se2⟩ := LI_script hL2
  have fO := (LI_facts h).1
  have fM2 := (LI_facts hL2).2.1
  have p1 := ix (k := 1) hi hN (by decide)
  have p2 := ix (k := 2) hi hN (by decide)
  have p3 := ix (k := 3) hi hN (by decide)
  have p4 := ix (k := 4) hi hN (by decide)
  have p5 := ix (k := 5) hi hN (by decide)
  have p6 := ix (k := 6) hi hN (by decide)
  refine ⟨s', H3, a5, a6, hL3, fun out => ?_⟩
  simp only [e_L_law_1177, e_L_law_1178, e_L_law_1179, e_L_law_1181, e_L_law_1182, e_L_law_1183, e_L_law_1184, e_L_law_1185, e_L_law_1187, e_L_law_1188, e_L_law_1189, e_L_law_1201, e_L_law_1202, e_L_law_1203, e_L_law_1205, e_L_law_1206, e_L_law_1207, e_L_law_1208, e_L_law_1209, e_L_law_1211, e_L_law_1212, e_L_law_1213, e_L_law_1225, e_L_law_1228, e_L_law_1229, b_L_law_1190, b_L_law_1214, c_L_law_1198 _ w, c_L_law_1222 _ m1, sA, sl, se, sA2, sl2, se2, fO, fM2, eq_self, nI_1, nI_2, nI_3, nI_4', nI_5', nI_6', p1.1, p1.2.1, p1.2.2, p2.1, p2.2.1, p2.2.2, p3.1, p3.2.1, p3.2.2, p4.1, p4.2.1, p4.2.2, p5.1, p5.2.1, p5.2.2, p6.1, p6.2.1, p6.2.2, nem, su_get, z1e0, z2e0, z3e0, z4e0, z5e0, z0e1, zme0, Nat.reduceEqDiff, not_true_eq_false, and_self, false_or, or_false, or_self,  bI_eq0, bI_eq1, i10, i20, i30, i00, ne_eq, Decidable.not_not, true_and, and_true, false_and, and_false, xrd_ref, xrd_null, xrd_rf, xid_int, xcat_int, xcat_ref, xcat_null, xcat_long, xcat_rf, xfit_int, xfit_0, xfit_1, xfit_ref, xfit_null, xfit_rf, not_false_eq_true, ↓reduceIte, z01_0, z01_1, bI_01, true_or, or_true]
theorem C_list {r : Int32} (hi : i + 7 ≤ N) (hN : N ≤ 3584) (h : LI g b N xs n s s H) (w : Ev g 72 0 [some (.ref g.1), some (.int (xs (i + 1)))] [] H (.inl (some (.int r)), H2)) (hL2 : LI g b N xs (n + 1) s s' H2) (m : MS g b N xs n s s' 155 [some (.ref (g.1 + 20)), some (.int (xs (i + 1)))] (some (.int r))) : NX g b N xs n i 1230 H a5 a6 := by
  obtain ⟨H3, m1, hL3, hx⟩ := m H2 hL2
  obtain ⟨sA, sl, se⟩ := LI_script h
  obtain ⟨sA2, sl2, se2⟩ := LI_script hL2
  have fO := (LI_facts h).1
  have fM2 := (LI_facts hL2).2.1
  have p1 := ix (k := 1) hi hN (by decide)
  have p2 := ix (k := 2) hi hN (by decide)
  have p3 := ix (k := 3) hi hN (by decide)
  have p4 := ix (k := 4) hi hN (by decide)
  have p5 := ix (k := 5) hi hN (by decide)
  have p6 := ix (k := 6) hi hN (by decide)
  refine ⟨s', H3, a5, a6, hL3, fun out => ?_⟩
  simp only [e_L_law_1230, e_L_law_1231, e_L_law_1232, e_L_law_1234, e_L_law_1235, e_L_law_1236, e_L_law_1240, e_L_law_1241, e_L_law_1242, e_L_law_1244, e_L_law_1245, e_L_law_1246, e_L_law_1250, e_L_law_1253, e_L_law_1254, c_L_law_1237 _ w, c_L_law_1247 _ m1, sA, sl, se, sA2, sl2, se2, fO, fM2, eq_self, nI_1, nI_2, nI_3, nI_4', nI_5', nI_6', p1.1, p1.2.1, p1.2.2, p2.1, p2.2.1, p2.2.2, p3.1, p3.2.1, p3.2.2, p4.1, p4.2.1, p4.2.2, p5.1, p5.2.1, p5.2.2, p6.1, p6.2.1, p6.2.2, nem, su_get, z1e0, z2e0, z3e0, z4e0, z5e0, z0e1, zme0, Nat.reduceEqDiff, not_true_eq_false, and_self, false_or, or_false, or_self,  bI_eq0, bI_eq1, i10, i20, i30, i00, ne_eq, Decidable.not_not, true_and, and_true, false_and, and_false, xrd_ref, xrd_null, xrd_rf, xid_int, xcat_int, xcat_ref, xcat_null, xcat_long, xcat_rf, xfit_int, xfit_0, xfit_1, xfit_ref, xfit_null, xfit_rf, not_false_eq_true, ↓reduceIte, z01_0, z01_1, bI_01, true_or, or_true]
theorem C_asked {r : Int32} (hi : i + 7 ≤ N) (hN : N ≤ 3584) (h : LI g b N xs n s s H) (w : Ev g 73 0 [some (.ref g.1), some (.int (xs (i + 1))), some (.int (xs (i + 2)))] [] H (.inl (some (.int r)), H2)) (hL2 : LI g b N xs (n + 1) s s' H2) (m : MS g b N xs n s s' 156 [some (.ref (g.1 + 20)), some (.int (xs (i + 1))), some (.int (xs (i + 2)))] (some (.int r))) : NX g b N xs n i 1255 H a5 a6 := by
  obtain ⟨H3, m1, hL3, hx⟩ := m H2 hL2
  obtain ⟨sA, sl, se⟩ := LI_script h
  obtain ⟨sA2, sl2, se2⟩ := LI_script hL2
  have fO := (LI_facts h).1
  have fM2 := (LI_facts hL2).2.1
  have p1 := ix (k := 1) hi hN (by decide)
  have p2 := ix (k := 2) hi hN (by decide)
  have p3 := ix (k := 3) hi hN (by decide)
  have p4 := ix (k := 4) hi hN (by decide)
  have p5 := ix (k := 5) hi hN (by decide)
  have p6 := ix (k := 6) hi hN (by decide)
  refine ⟨s', H3, a5, a6, hL3, fun out => ?_⟩
  simp only [e_L_law_1255, e_L_law_1256, e_L_law_1257, e_L_law_1259, e_L_law_1260, e_L_law_1261, e_L_law_1262, e_L_law_1263, e_L_law_1265, e_L_law_1266, e_L_law_1267, e_L_law_1271, e_L_law_1272, e_L_law_1273, e_L_law_1275, e_L_law_1276, e_L_law_1277, e_L_law_1278, e_L_law_1279, e_L_law_1281, e_L_law_1282, e_L_law_1283, e_L_law_1287, e_L_law_1290, e_L_law_1291, c_L_law_1268 _ w, c_L_law_1284 _ m1, sA, sl, se, sA2, sl2, se2, fO, fM2, eq_self, nI_1, nI_2, nI_3, nI_4', nI_5', nI_6', p1.1, p1.2.1, p1.2.2, p2.1, p2.2.1, p2.2.2, p3.1, p3.2.1, p3.2.2, p4.1, p4.2.1, p4.2.2, p5.1, p5.2.1, p5.2.2, p6.1, p6.2.1, p6.2.2, nem, su_get, z1e0, z2e0, z3e0, z4e0, z5e0, z0e1, zme0, Nat.reduceEqDiff, not_true_eq_false, and_self, false_or, or_false, or_self,  bI_eq0, bI_eq1, i10, i20, i30, i00, ne_eq, Decidable.not_not, true_and, and_true, false_and, and_false, xrd_ref, xrd_null, xrd_rf, xid_int, xcat_int, xcat_ref, xcat_null, xcat_long, xcat_rf, xfit_int, xfit_0, xfit_1, xfit_ref, xfit_null, xfit_rf, not_false_eq_true, ↓reduceIte, z01_0, z01_1, bI_01, true_or, or_true]
theorem C_look {e r : Int32} (hi : i + 7 ≤ N) (hN : N ≤ 3584) (h : LI g b N xs n s s H) (w : Ev g 177 0 [some (.ref g.1), some (.int (xs (i + 1))), some (.int (xs (i + 2))), some (.ref (g.1 + 62)), none] [] H (.inl (some (.int e)), H2)) (hL2 : LI g b N xs (n + 1) s s' H2) (hv : e = 0 → xe H2 (g.1 + 62) 0 = .long (r).toInt64) (m : MS g b N xs n s s' 158 [some (.ref (g.1 + 20)), some (.int (xs (i + 1))), some (.int (xs (i + 2)))] (some (.int r))) (ht : s' 0 0 = e) : NX g b N xs n i 1292 H a5 a6 := by
  obtain ⟨H3, m1, hL3, hx⟩ := m H2 hL2
  have t3 := thr3 hL3 ht
  obtain ⟨sA, sl, se⟩ := LI_script h
  obtain ⟨sA2, sl2, se2⟩ := LI_script hL2
  have fM2 := (LI_facts hL2).2.1
  obtain ⟨-, fM3, ⟨oA, ol⟩, -⟩ := LI_facts hL3
  have p1 := ix (k := 1) hi hN (by decide)
  have p2 := ix (k := 2) hi hN (by decide)
  have p3 := ix (k := 3) hi hN (by decide)
  have p4 := ix (k := 4) hi hN (by decide)
  have p5 := ix (k := 5) hi hN (by decide)
  have p6 := ix (k := 6) hi hN (by decide)
  refine ⟨s', H3, some (.int e), some (.int r), hL3, fun out => ?_⟩
  by_cases e0 : e = 0
  · have hv2 := hx.trans (hv e0)
    subst e0
    simp only [e_L_law_1292, e_L_law_1293, e_L_law_1294, e_L_law_1296, e_L_law_1297, e_L_law_1298, e_L_law_1299, e_L_law_1300, e_L_law_1302, e_L_law_1303, e_L_law_1304, e_L_law_1305, e_L_law_1309, e_L_law_1311, e_L_law_1312, e_L_law_1313, e_L_law_1315, e_L_law_1316, e_L_law_1317, e_L_law_1318, e_L_law_1319, e_L_law_1321, e_L_law_1322, e_L_law_1323, e_L_law_1327, e_L_law_1329, e_L_law_1333, e_L_law_1335, e_L_law_1338, e_L_law_1339, e_L_law_1340, e_L_law_1342, e_L_law_1345, e_L_law_1346, e_L_law_1347, e_L_law_1348, e_L_law_1350, e_L_law_1351, e_L_law_1352, e_L_law_1355, e_L_law_1356, e_L_law_1357, c_L_law_1306 _ _ w, c_L_law_1324 _ m1, c_L_law_1330 _ t3, hv2, eq_self, sA, sl, se, sA2, sl2, se2, fM2, fM3, oA, ol, i0l, c00, n10, lg_self, nI_1, nI_2, nI_3, nI_4', nI_5', nI_6', p1.1, p1.2.1, p1.2.2, p2.1, p2.2.1, p2.2.2, p3.1, p3.2.1, p3.2.2, p4.1, p4.2.1, p4.2.2, p5.1, p5.2.1, p5.2.2, p6.1, p6.2.1, p6.2.2, nem, su_get, z1e0, z2e0, z3e0, z4e0, z5e0, z0e1, zme0, Nat.reduceEqDiff, not_true_eq_false, and_self, false_or, or_false, or_self,  bI_eq0, bI_eq1, i10, i20, i30, i00, ne_eq, Decidable.not_not, true_and, and_true, false_and, and_false, xrd_ref, xrd_null, xrd_rf, xid_int, xcat_int, xcat_ref, xcat_null, xcat_long, xcat_rf, xfit_int, xfit_0, xfit_1, xfit_ref, xfit_null, xfit_rf, not_false_eq_true, ↓reduceIte, z01_0, z01_1, bI_01, true_or, or_true]
  · simp only [e_L_law_1292, e_L_law_1293, e_L_law_1294, e_L_law_1296, e_L_law_1297, e_L_law_1298, e_L_law_1299, e_L_law_1300, e_L_law_1302, e_L_law_1303, e_L_law_1304, e_L_law_1305, e_L_law_1309, e_L_law_1311, e_L_law_1312, e_L_law_1313, e_L_law_1315, e_L_law_1316, e_L_law_1317, e_L_law_1318, e_L_law_1319, e_L_law_1321, e_L_law_1322, e_L_law_1323, e_L_law_1327, e_L_law_1329, e_L_law_1333, e_L_law_1335, e_L_law_1338, e_L_law_1339, e_L_law_1340, e_L_law_1342, e_L_law_1345, e_L_law_1346, e_L_law_1347, e_L_law_1348, e_L_law_1350, e_L_law_1351, e_L_law_1352, e_L_law_1355, e_L_law_1356, e_L_law_1357, c_L_law_1306 _ _ w, c_L_law_1324 _ m1, c_L_law_1330 _ t3, e0, eq_self, sA, sl, se, sA2, sl2, se2, fM2, fM3, oA, ol, i0l, c00, n10, lg_self, nI_1, nI_2, nI_3, nI_4', nI_5', nI_6', p1.1, p1.2.1, p1.2.2, p2.1, p2.2.1, p2.2.2, p3.1, p3.2.1, p3.2.2, p4.1, p4.2.1, p4.2.2, p5.1, p5.2.1, p5.2.2, p6.1, p6.2.1, p6.2.2, nem, su_get, z1e0, z2e0, z3e0, z4e0, z5e0, z0e1, zme0, Nat.reduceEqDiff, not_true_eq_false, and_self, false_or, or_false, or_self,  bI_eq0, bI_eq1, i10, i20, i30, i00, ne_eq, Decidable.not_not, true_and, and_true, false_and, and_false, xrd_ref, xrd_null, xrd_rf, xid_int, xcat_int, xcat_ref, xcat_null, xcat_long, xcat_rf, xfit_int, xfit_0, xfit_1, xfit_ref, xfit_null, xfit_rf, not_false_eq_true, ↓reduceIte, z01_0, z01_1, bI_01, true_or, or_true]
theorem C_craft {e r : Int32} (hi : i + 7 ≤ N) (hN : N ≤ 3584) (h : LI g b N xs n s s H) (w : Ev g 178 0 [some (.ref g.1), some (.int (xs (i + 1))), some (.int (xs (i + 2))), some (.ref (g.1 + 62)), none] [] H (.inl (some (.int e)), H2)) (hL2 : LI g b N xs (n + 1) s s' H2) (hv : e = 0 → xe H2 (g.1 + 62) 0 = .long (r).toInt64) (m : MS g b N xs n s s' 159 [some (.ref (g.1 + 20)), some (.int (xs (i + 1))), some (.int (xs (i + 2)))] (some (.int r))) (ht : s' 0 0 = e) : NX g b N xs n i 1360 H a5 a6 := by
  obtain ⟨H3, m1, hL3, hx⟩ := m H2 hL2
  have t3 := thr3 hL3 ht
  obtain ⟨sA, sl, se⟩ := LI_script h
  obtain ⟨sA2, sl2, se2⟩ := LI_script hL2
  have fM2 := (LI_facts hL2).2.1
  obtain ⟨-, fM3, ⟨oA, ol⟩, -⟩ := LI_facts hL3
  have p1 := ix (k := 1) hi hN (by decide)
  have p2 := ix (k := 2) hi hN (by decide)
  have p3 := ix (k := 3) hi hN (by decide)
  have p4 := ix (k := 4) hi hN (by decide)
  have p5 := ix (k := 5) hi hN (by decide)
  have p6 := ix (k := 6) hi hN (by decide)
  refine ⟨s', H3, some (.int e), some (.int r), hL3, fun out => ?_⟩
  by_cases e0 : e = 0
  · have hv2 := hx.trans (hv e0)
    subst e0
    simp only [e_L_law_1360, e_L_law_1361, e_L_law_1362, e_L_law_1364, e_L_law_1365, e_L_law_1366, e_L_law_1367, e_L_law_1368, e_L_law_1370, e_L_law_1371, e_L_law_1372, e_L_law_1373, e_L_law_1377, e_L_law_1379, e_L_law_1380, e_L_law_1381, e_L_law_1383, e_L_law_1384, e_L_law_1385, e_L_law_1386, e_L_law_1387, e_L_law_1389, e_L_law_1390, e_L_law_1391, e_L_law_1395, e_L_law_1397, e_L_law_1401, e_L_law_1403, e_L_law_1406, e_L_law_1407, e_L_law_1408, e_L_law_1410, e_L_law_1413, e_L_law_1414, e_L_law_1415, e_L_law_1416, e_L_law_1418, e_L_law_1419, e_L_law_1420, e_L_law_1423, e_L_law_1424, e_L_law_1425, c_L_law_1374 _ _ w, c_L_law_1392 _ m1, c_L_law_1398 _ t3, hv2, eq_self, sA, sl, se, sA2, sl2, se2, fM2, fM3, oA, ol, i0l, c00, n10, lg_self, nI_1, nI_2, nI_3, nI_4', nI_5', nI_6', p1.1, p1.2.1, p1.2.2, p2.1, p2.2.1, p2.2.2, p3.1, p3.2.1, p3.2.2, p4.1, p4.2.1, p4.2.2, p5.1, p5.2.1, p5.2.2, p6.1, p6.2.1, p6.2.2, nem, su_get, z1e0, z2e0, z3e0, z4e0, z5e0, z0e1, zme0, Nat.reduceEqDiff, not_true_eq_false, and_self, false_or, or_false, or_self,  bI_eq0, bI_eq1, i10, i20, i30, i00, ne_eq, Decidable.not_not, true_and, and_true, false_and, and_false, xrd_ref, xrd_null, xrd_rf, xid_int, xcat_int, xcat_ref, xcat_null, xcat_long, xcat_rf, xfit_int, xfit_0, xfit_1, xfit_ref, xfit_null, xfit_rf, not_false_eq_true, ↓reduceIte, z01_0, z01_1, bI_01, true_or, or_true]
  · simp only [e_L_law_1360, e_L_law_1361, e_L_law_1362, e_L_law_1364, e_L_law_1365, e_L_law_1366, e_L_law_1367, e_L_law_1368, e_L_law_1370, e_L_law_1371, e_L_law_1372, e_L_law_1373, e_L_law_1377, e_L_law_1379, e_L_law_1380, e_L_law_1381, e_L_law_1383, e_L_law_1384, e_L_law_1385, e_L_law_1386, e_L_law_1387, e_L_law_1389, e_L_law_1390, e_L_law_1391, e_L_law_1395, e_L_law_1397, e_L_law_1401, e_L_law_1403, e_L_law_1406, e_L_law_1407, e_L_law_1408, e_L_law_1410, e_L_law_1413, e_L_law_1414, e_L_law_1415, e_L_law_1416, e_L_law_1418, e_L_law_1419, e_L_law_1420, e_L_law_1423, e_L_law_1424, e_L_law_1425, c_L_law_1374 _ _ w, c_L_law_1392 _ m1, c_L_law_1398 _ t3, e0, eq_self, sA, sl, se, sA2, sl2, se2, fM2, fM3, oA, ol, i0l, c00, n10, lg_self, nI_1, nI_2, nI_3, nI_4', nI_5', nI_6', p1.1, p1.2.1, p1.2.2, p2.1, p2.2.1, p2.2.2, p3.1, p3.2.1, p3.2.2, p4.1, p4.2.1, p4.2.2, p5.1, p5.2.1, p5.2.2, p6.1, p6.2.1, p6.2.2, nem, su_get, z1e0, z2e0, z3e0, z4e0, z5e0, z0e1, zme0, Nat.reduceEqDiff, not_true_eq_false, and_self, false_or, or_false, or_self,  bI_eq0, bI_eq1, i10, i20, i30, i00, ne_eq, Decidable.not_not, true_and, and_true, false_and, and_false, xrd_ref, xrd_null, xrd_rf, xid_int, xcat_int, xcat_ref, xcat_null, xcat_long, xcat_rf, xfit_int, xfit_0, xfit_1, xfit_ref, xfit_null, xfit_rf, not_false_eq_true, ↓reduceIte, z01_0, z01_1, bI_01, true_or, or_true]
theorem C_fair {r : Int32} (hi : i + 7 ≤ N) (hN : N ≤ 3584) (h : LI g b N xs n s s H) (w : Ev g 76 0 [some (.ref g.1), none, none, none, none] [] H (.inl (some (.int r)), H2)) (hL2 : LI g b N xs (n + 1) s s' H2) (m : MS g b N xs n s s' 160 [some (.ref (g.1 + 20)), none, none, none, none] (some (.int r))) : NX g b N xs n i 1428 H a5 a6 := by
  obtain ⟨H3, m1, hL3, hx⟩ := m H2 hL2
  obtain ⟨sA, sl, se⟩ := LI_script h
  obtain ⟨sA2, sl2, se2⟩ := LI_script hL2
  have fO := (LI_facts h).1
  have fM2 := (LI_facts hL2).2.1
  have p1 := ix (k := 1) hi hN (by decide)
  have p2 := ix (k := 2) hi hN (by decide)
  have p3 := ix (k := 3) hi hN (by decide)
  have p4 := ix (k := 4) hi hN (by decide)
  have p5 := ix (k := 5) hi hN (by decide)
  have p6 := ix (k := 6) hi hN (by decide)
  refine ⟨s', H3, a5, a6, hL3, fun out => ?_⟩
  simp only [e_L_law_1428, e_L_law_1432, e_L_law_1436, e_L_law_1439, e_L_law_1440, c_L_law_1429 _ w, c_L_law_1433 _ m1, sA, sl, se, sA2, sl2, se2, fO, fM2, eq_self, nI_1, nI_2, nI_3, nI_4', nI_5', nI_6', p1.1, p1.2.1, p1.2.2, p2.1, p2.2.1, p2.2.2, p3.1, p3.2.1, p3.2.2, p4.1, p4.2.1, p4.2.2, p5.1, p5.2.1, p5.2.2, p6.1, p6.2.1, p6.2.2, nem, su_get, z1e0, z2e0, z3e0, z4e0, z5e0, z0e1, zme0, Nat.reduceEqDiff, not_true_eq_false, and_self, false_or, or_false, or_self,  bI_eq0, bI_eq1, i10, i20, i30, i00, ne_eq, Decidable.not_not, true_and, and_true, false_and, and_false, xrd_ref, xrd_null, xrd_rf, xid_int, xcat_int, xcat_ref, xcat_null, xcat_long, xcat_rf, xfit_int, xfit_0, xfit_1, xfit_ref, xfit_null, xfit_rf, not_false_eq_true, ↓reduceIte, z01_0, z01_1, bI_01, true_or, or_true]
theorem C_count {r : Int32} (hi : i + 7 ≤ N) (hN : N ≤ 3584) (h : LI g b N xs n s s H) (w : Ev g 77 0 [some (.ref g.1), some (.int (xs (i + 1)))] [] H (.inl (some (.int r)), H2)) (hL2 : LI g b N xs (n + 1) s s' H2) (m : MS g b N xs n s s' 163 [some (.ref (g.1 + 20)), some (.int (xs (i + 1)))] (some (.int r))) : NX g b N xs n i 1441 H a5 a6 := by
  obtain ⟨H3, m1, hL3, hx⟩ := m H2 hL2
  obtain ⟨sA, sl, se⟩ := LI_script h
  obtain ⟨sA2, sl2, se2⟩ := LI_script hL2
  have fO := (LI_facts h).1
  have fM2 := (LI_facts hL2).2.1
  have p1 := ix (k := 1) hi hN (by decide)
  have p2 := ix (k := 2) hi hN (by decide)
  have p3 := ix (k := 3) hi hN (by decide)
  have p4 := ix (k := 4) hi hN (by decide)
  have p5 := ix (k := 5) hi hN (by decide)
  have p6 := ix (k := 6) hi hN (by decide)
  refine ⟨s', H3, a5, a6, hL3, fun out => ?_⟩
  simp only [e_L_law_1441, e_L_law_1442, e_L_law_1443, e_L_law_1445, e_L_law_1446, e_L_law_1447, e_L_law_1451, e_L_law_1452, e_L_law_1453, e_L_law_1455, e_L_law_1456, e_L_law_1457, e_L_law_1461, e_L_law_1464, e_L_law_1465, c_L_law_1448 _ w, c_L_law_1458 _ m1, sA, sl, se, sA2, sl2, se2, fO, fM2, eq_self, nI_1, nI_2, nI_3, nI_4', nI_5', nI_6', p1.1, p1.2.1, p1.2.2, p2.1, p2.2.1, p2.2.2, p3.1, p3.2.1, p3.2.2, p4.1, p4.2.1, p4.2.2, p5.1, p5.2.1, p5.2.2, p6.1, p6.2.1, p6.2.2, nem, su_get, z1e0, z2e0, z3e0, z4e0, z5e0, z0e1, zme0, Nat.reduceEqDiff, not_true_eq_false, and_self, false_or, or_false, or_self,  bI_eq0, bI_eq1, i10, i20, i30, i00, ne_eq, Decidable.not_not, true_and, and_true, false_and, and_false, xrd_ref, xrd_null, xrd_rf, xid_int, xcat_int, xcat_ref, xcat_null, xcat_long, xcat_rf, xfit_int, xfit_0, xfit_1, xfit_ref, xfit_null, xfit_rf, not_false_eq_true, ↓reduceIte, z01_0, z01_1, bI_01, true_or, or_true]
end CS
