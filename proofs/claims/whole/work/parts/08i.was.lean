/-! ===== what the reference keeps and brings back (wip/tools/mk08i.py) ===== -/
/-- the state s0 is kept in s -/
def was (s s0 : mS) : Prop := s 53 0 = s0 18 0 ∧ (∀ p, p < 60 → s 54 (0 + p) = s0 8 p) ∧ (∀ p, p < 60 → s 54 (60 + p) = s0 9 p) ∧ (∀ p, p < 60 → s 54 (120 + p) = s0 10 p) ∧ (∀ p, p < 60 → s 54 (180 + p) = s0 11 p) ∧ (∀ p, p < 60 → s 54 (240 + p) = s0 12 p) ∧ (∀ p, p < 60 → s 54 (300 + p) = s0 13 p) ∧ (∀ p, p < 60 → s 54 (360 + p) = s0 14 p) ∧ (∀ p, p < 60 → s 54 (420 + p) = s0 15 p) ∧ (∀ p, p < 60 → s 54 (480 + p) = s0 17 p) ∧ (∀ p, p < 60 → s 54 (540 + p) = s0 16 p) ∧ (∀ x, x < 400 → s 55 (0 + x) = s0 26 x) ∧ (∀ x, x < 400 → s 55 (400 + x) = s0 27 x) ∧ (∀ x, x < 400 → s 55 (800 + x) = s0 28 x) ∧ (∀ x, x < 400 → s 55 (1200 + x) = s0 29 x) ∧ (∀ x, x < 400 → s 55 (1600 + x) = s0 30 x) ∧ (∀ x, x < 400 → s 55 (2000 + x) = s0 31 x) ∧ (∀ x, x < 400 → s 55 (2400 + x) = s0 32 x) ∧ (∀ x, x < 400 → s 55 (2800 + x) = s0 33 x)
theorem kpA_o (s : mS) {k : Nat} (h : k ≠ 54) (j : Nat) : kpA s k j = s k j := by
  unfold kpA
  rw [cpS_o _ _ _ _ _ _ h, cpS_o _ _ _ _ _ _ h, cpS_o _ _ _ _ _ _ h, cpS_o _ _ _ _ _ _ h, cpS_o _ _ _ _ _ _ h, cpS_o _ _ _ _ _ _ h, cpS_o _ _ _ _ _ _ h, cpS_o _ _ _ _ _ _ h, cpS_o _ _ _ _ _ _ h, cpS_o _ _ _ _ _ _ h]
theorem kpA_8 (s : mS) {p : Nat} (hp : p < 60) : kpA s 54 (0 + p) = s 8 p := by
  unfold kpA
  rw [cpS_at _ _ _ (by decide), if_neg (by omega)]
  rw [cpS_at _ _ _ (by decide), if_neg (by omega)]
  rw [cpS_at _ _ _ (by decide), if_neg (by omega)]
  rw [cpS_at _ _ _ (by decide), if_neg (by omega)]
  rw [cpS_at _ _ _ (by decide), if_neg (by omega)]
  rw [cpS_at _ _ _ (by decide), if_neg (by omega)]
  rw [cpS_at _ _ _ (by decide), if_neg (by omega)]
  rw [cpS_at _ _ _ (by decide), if_neg (by omega)]
  rw [cpS_at _ _ _ (by decide), if_neg (by omega)]
  rw [cpS_at _ _ _ (by decide), if_pos (by omega), Nat.add_sub_cancel_left]
theorem kpA_9 (s : mS) {p : Nat} (hp : p < 60) : kpA s 54 (60 + p) = s 9 p := by
  unfold kpA
  rw [cpS_at _ _ _ (by decide), if_neg (by omega)]
  rw [cpS_at _ _ _ (by decide), if_neg (by omega)]
  rw [cpS_at _ _ _ (by decide), if_neg (by omega)]
  rw [cpS_at _ _ _ (by decide), if_neg (by omega)]
  rw [cpS_at _ _ _ (by decide), if_neg (by omega)]
  rw [cpS_at _ _ _ (by decide), if_neg (by omega)]
  rw [cpS_at _ _ _ (by decide), if_neg (by omega)]
  rw [cpS_at _ _ _ (by decide), if_neg (by omega)]
  rw [cpS_at _ _ _ (by decide), if_pos (by omega), Nat.add_sub_cancel_left]
  rw [cpS_o _ _ _ _ _ _ (by decide)]
theorem kpA_10 (s : mS) {p : Nat} (hp : p < 60) : kpA s 54 (120 + p) = s 10 p := by
  unfold kpA
  rw [cpS_at _ _ _ (by decide), if_neg (by omega)]
  rw [cpS_at _ _ _ (by decide), if_neg (by omega)]
  rw [cpS_at _ _ _ (by decide), if_neg (by omega)]
  rw [cpS_at _ _ _ (by decide), if_neg (by omega)]
  rw [cpS_at _ _ _ (by decide), if_neg (by omega)]
  rw [cpS_at _ _ _ (by decide), if_neg (by omega)]
  rw [cpS_at _ _ _ (by decide), if_neg (by omega)]
  rw [cpS_at _ _ _ (by decide), if_pos (by omega), Nat.add_sub_cancel_left]
  rw [cpS_o _ _ _ _ _ _ (by decide), cpS_o _ _ _ _ _ _ (by decide)]
theorem kpA_11 (s : mS) {p : Nat} (hp : p < 60) : kpA s 54 (180 + p) = s 11 p := by
  unfold kpA
  rw [cpS_at _ _ _ (by decide), if_neg (by omega)]
  rw [cpS_at _ _ _ (by decide), if_neg (by omega)]
  rw [cpS_at _ _ _ (by decide), if_neg (by omega)]
  rw [cpS_at _ _ _ (by decide), if_neg (by omega)]
  rw [cpS_at _ _ _ (by decide), if_neg (by omega)]
  rw [cpS_at _ _ _ (by decide), if_neg (by omega)]
  rw [cpS_at _ _ _ (by decide), if_pos (by omega), Nat.add_sub_cancel_left]
  rw [cpS_o _ _ _ _ _ _ (by decide), cpS_o _ _ _ _ _ _ (by decide), cpS_o _ _ _ _ _ _ (by decide)]
theorem kpA_12 (s : mS) {p : Nat} (hp : p < 60) : kpA s 54 (240 + p) = s 12 p := by
  unfold kpA
  rw [cpS_at _ _ _ (by decide), if_neg (by omega)]
  rw [cpS_at _ _ _ (by decide), if_neg (by omega)]
  rw [cpS_at _ _ _ (by decide), if_neg (by omega)]
  rw [cpS_at _ _ _ (by decide), if_neg (by omega)]
  rw [cpS_at _ _ _ (by decide), if_neg (by omega)]
  rw [cpS_at _ _ _ (by decide), if_pos (by omega), Nat.add_sub_cancel_left]
  rw [cpS_o _ _ _ _ _ _ (by decide), cpS_o _ _ _ _ _ _ (by decide), cpS_o _ _ _ _ _ _ (by decide), cpS_o _ _ _ _ _ _ (by decide)]
theorem kpA_13 (s : mS) {p : Nat} (hp : p < 60) : kpA s 54 (300 + p) = s 13 p := by
  unfold kpA
  rw [cpS_at _ _ _ (by decide), if_neg (by omega)]
  rw [cpS_at _ _ _ (by decide), if_neg (by omega)]
  rw [cpS_at _ _ _ (by decide), if_neg (by omega)]
  rw [cpS_at _ _ _ (by decide), if_neg (by omega)]
  rw [cpS_at _ _ _ (by decide), if_pos (by omega), Nat.add_sub_cancel_left]
  rw [cpS_o _ _ _ _ _ _ (by decide), cpS_o _ _ _ _ _ _ (by decide), cpS_o _ _ _ _ _ _ (by decide), cpS_o _ _ _ _ _ _ (by decide), cpS_o _ _ _ _ _ _ (by decide)]
theorem kpA_14 (s : mS) {p : Nat} (hp : p < 60) : kpA s 54 (360 + p) = s 14 p := by
  unfold kpA
  rw [cpS_at _ _ _ (by decide), if_neg (by omega)]
  rw [cpS_at _ _ _ (by decide), if_neg (by omega)]
  rw [cpS_at _ _ _ (by decide), if_neg (by omega)]
  rw [cpS_at _ _ _ (by decide), if_pos (by omega), Nat.add_sub_cancel_left]
  rw [cpS_o _ _ _ _ _ _ (by decide), cpS_o _ _ _ _ _ _ (by decide), cpS_o _ _ _ _ _ _ (by decide), cpS_o _ _ _ _ _ _ (by decide), cpS_o _ _ _ _ _ _ (by decide), cpS_o _ _ _ _ _ _ (by decide)]
theorem kpA_15 (s : mS) {p : Nat} (hp : p < 60) : kpA s 54 (420 + p) = s 15 p := by
  unfold kpA
  rw [cpS_at _ _ _ (by decide), if_neg (by omega)]
  rw [cpS_at _ _ _ (by decide), if_neg (by omega)]
  rw [cpS_at _ _ _ (by decide), if_pos (by omega), Nat.add_sub_cancel_left]
  rw [cpS_o _ _ _ _ _ _ (by decide), cpS_o _ _ _ _ _ _ (by decide), cpS_o _ _ _ _ _ _ (by decide), cpS_o _ _ _ _ _ _ (by decide), cpS_o _ _ _ _ _ _ (by decide), cpS_o _ _ _ _ _ _ (by decide), cpS_o _ _ _ _ _ _ (by decide)]
theorem kpA_17 (s : mS) {p : Nat} (hp : p < 60) : kpA s 54 (480 + p) = s 17 p := by
  unfold kpA
  rw [cpS_at _ _ _ (by decide), if_neg (by omega)]
  rw [cpS_at _ _ _ (by decide), if_pos (by omega), Nat.add_sub_cancel_left]
  rw [cpS_o _ _ _ _ _ _ (by decide), cpS_o _ _ _ _ _ _ (by decide), cpS_o _ _ _ _ _ _ (by decide), cpS_o _ _ _ _ _ _ (by decide), cpS_o _ _ _ _ _ _ (by decide), cpS_o _ _ _ _ _ _ (by decide), cpS_o _ _ _ _ _ _ (by decide), cpS_o _ _ _ _ _ _ (by decide)]
theorem kpA_16 (s : mS) {p : Nat} (hp : p < 60) : kpA s 54 (540 + p) = s 16 p := by
  unfold kpA
  rw [cpS_at _ _ _ (by decide), if_pos (by omega), Nat.add_sub_cancel_left]
  rw [cpS_o _ _ _ _ _ _ (by decide), cpS_o _ _ _ _ _ _ (by decide), cpS_o _ _ _ _ _ _ (by decide), cpS_o _ _ _ _ _ _ (by decide), cpS_o _ _ _ _ _ _ (by decide), cpS_o _ _ _ _ _ _ (by decide), cpS_o _ _ _ _ _ _ (by decide), cpS_o _ _ _ _ _ _ (by decide), cpS_o _ _ _ _ _ _ (by decide)]
theorem kpB_o (s : mS) {k : Nat} (h : k ≠ 55) (j : Nat) : kpB s k j = s k j := by
  unfold kpB
  rw [cpS_o _ _ _ _ _ _ h, cpS_o _ _ _ _ _ _ h, cpS_o _ _ _ _ _ _ h, cpS_o _ _ _ _ _ _ h, cpS_o _ _ _ _ _ _ h, cpS_o _ _ _ _ _ _ h, cpS_o _ _ _ _ _ _ h, cpS_o _ _ _ _ _ _ h]
theorem kpB_26 (s : mS) {x : Nat} (hx : x < 400) : kpB s 55 (0 + x) = s 26 x := by
  unfold kpB
  rw [cpS_at _ _ _ (by decide), if_neg (by omega)]
  rw [cpS_at _ _ _ (by decide), if_neg (by omega)]
  rw [cpS_at _ _ _ (by decide), if_neg (by omega)]
  rw [cpS_at _ _ _ (by decide), if_neg (by omega)]
  rw [cpS_at _ _ _ (by decide), if_neg (by omega)]
  rw [cpS_at _ _ _ (by decide), if_neg (by omega)]
  rw [cpS_at _ _ _ (by decide), if_neg (by omega)]
  rw [cpS_at _ _ _ (by decide), if_pos (by omega), Nat.add_sub_cancel_left]
theorem kpB_27 (s : mS) {x : Nat} (hx : x < 400) : kpB s 55 (400 + x) = s 27 x := by
  unfold kpB
  rw [cpS_at _ _ _ (by decide), if_neg (by omega)]
  rw [cpS_at _ _ _ (by decide), if_neg (by omega)]
  rw [cpS_at _ _ _ (by decide), if_neg (by omega)]
  rw [cpS_at _ _ _ (by decide), if_neg (by omega)]
  rw [cpS_at _ _ _ (by decide), if_neg (by omega)]
  rw [cpS_at _ _ _ (by decide), if_neg (by omega)]
  rw [cpS_at _ _ _ (by decide), if_pos (by omega), Nat.add_sub_cancel_left]
  rw [cpS_o _ _ _ _ _ _ (by decide)]
theorem kpB_28 (s : mS) {x : Nat} (hx : x < 400) : kpB s 55 (800 + x) = s 28 x := by
  unfold kpB
  rw [cpS_at _ _ _ (by decide), if_neg (by omega)]
  rw [cpS_at _ _ _ (by decide), if_neg (by omega)]
  rw [cpS_at _ _ _ (by decide), if_neg (by omega)]
  rw [cpS_at _ _ _ (by decide), if_neg (by omega)]
  rw [cpS_at _ _ _ (by decide), if_neg (by omega)]
  rw [cpS_at _ _ _ (by decide), if_pos (by omega), Nat.add_sub_cancel_left]
  rw [cpS_o _ _ _ _ _ _ (by decide), cpS_o _ _ _ _ _ _ (by decide)]
theorem kpB_29 (s : mS) {x : Nat} (hx : x < 400) : kpB s 55 (1200 + x) = s 29 x := by
  unfold kpB
  rw [cpS_at _ _ _ (by decide), if_neg (by omega)]
  rw [cpS_at _ _ _ (by decide), if_neg (by omega)]
  rw [cpS_at _ _ _ (by decide), if_neg (by omega)]
  rw [cpS_at _ _ _ (by decide), if_neg (by omega)]
  rw [cpS_at _ _ _ (by decide), if_pos (by omega), Nat.add_sub_cancel_left]
  rw [cpS_o _ _ _ _ _ _ (by decide), cpS_o _ _ _ _ _ _ (by decide), cpS_o _ _ _ _ _ _ (by decide)]
theorem kpB_30 (s : mS) {x : Nat} (hx : x < 400) : kpB s 55 (1600 + x) = s 30 x := by
  unfold kpB
  rw [cpS_at _ _ _ (by decide), if_neg (by omega)]
  rw [cpS_at _ _ _ (by decide), if_neg (by omega)]
  rw [cpS_at _ _ _ (by decide), if_neg (by omega)]
  rw [cpS_at _ _ _ (by decide), if_pos (by omega), Nat.add_sub_cancel_left]
  rw [cpS_o _ _ _ _ _ _ (by decide), cpS_o _ _ _ _ _ _ (by decide), cpS_o _ _ _ _ _ _ (by decide), cpS_o _ _ _ _ _ _ (by decide)]
theorem kpB_31 (s : mS) {x : Nat} (hx : x < 400) : kpB s 55 (2000 + x) = s 31 x := by
  unfold kpB
  rw [cpS_at _ _ _ (by decide), if_neg (by omega)]
  rw [cpS_at _ _ _ (by decide), if_neg (by omega)]
  rw [cpS_at _ _ _ (by decide), if_pos (by omega), Nat.add_sub_cancel_left]
  rw [cpS_o _ _ _ _ _ _ (by decide), cpS_o _ _ _ _ _ _ (by decide), cpS_o _ _ _ _ _ _ (by decide), cpS_o _ _ _ _ _ _ (by decide), cpS_o _ _ _ _ _ _ (by decide)]
theorem kpB_32 (s : mS) {x : Nat} (hx : x < 400) : kpB s 55 (2400 + x) = s 32 x := by
  unfold kpB
  rw [cpS_at _ _ _ (by decide), if_neg (by omega)]
  rw [cpS_at _ _ _ (by decide), if_pos (by omega), Nat.add_sub_cancel_left]
  rw [cpS_o _ _ _ _ _ _ (by decide), cpS_o _ _ _ _ _ _ (by decide), cpS_o _ _ _ _ _ _ (by decide), cpS_o _ _ _ _ _ _ (by decide), cpS_o _ _ _ _ _ _ (by decide), cpS_o _ _ _ _ _ _ (by decide)]
theorem kpB_33 (s : mS) {x : Nat} (hx : x < 400) : kpB s 55 (2800 + x) = s 33 x := by
  unfold kpB
  rw [cpS_at _ _ _ (by decide), if_pos (by omega), Nat.add_sub_cancel_left]
  rw [cpS_o _ _ _ _ _ _ (by decide), cpS_o _ _ _ _ _ _ (by decide), cpS_o _ _ _ _ _ _ (by decide), cpS_o _ _ _ _ _ _ (by decide), cpS_o _ _ _ _ _ _ (by decide), cpS_o _ _ _ _ _ _ (by decide), cpS_o _ _ _ _ _ _ (by decide)]
theorem keep_was (s : mS) : was (f_keep s) s := by
  unfold f_keep
  have a : ∀ j, kpB (su (kpA s) 53 0 (kpA s 18 0)) 54 j = kpA s 54 j := fun j => by rw [kpB_o _ (by decide), su_other _ _ (by decide)]
  have b : ∀ k j, k ≠ 53 → k ≠ 54 → su (kpA s) 53 0 (kpA s 18 0) k j = s k j := fun k j h1 h2 => by rw [su_other _ _ h1, kpA_o _ h2]
  refine ⟨?_, fun p hp => ?_, fun p hp => ?_, fun p hp => ?_, fun p hp => ?_, fun p hp => ?_, fun p hp => ?_, fun p hp => ?_, fun p hp => ?_, fun p hp => ?_, fun p hp => ?_, fun x hx => ?_, fun x hx => ?_, fun x hx => ?_, fun x hx => ?_, fun x hx => ?_, fun x hx => ?_, fun x hx => ?_, fun x hx => ?_⟩
  · rw [kpB_o _ (by decide)]; simp [su, kpA_o s (show 18 ≠ 54 by decide)]
  · rw [a, kpA_8 s hp]
  · rw [a, kpA_9 s hp]
  · rw [a, kpA_10 s hp]
  · rw [a, kpA_11 s hp]
  · rw [a, kpA_12 s hp]
  · rw [a, kpA_13 s hp]
  · rw [a, kpA_14 s hp]
  · rw [a, kpA_15 s hp]
  · rw [a, kpA_17 s hp]
  · rw [a, kpA_16 s hp]
  · rw [kpB_26 _ hx, b _ _ (by decide) (by decide)]
  · rw [kpB_27 _ hx, b _ _ (by decide) (by decide)]
  · rw [kpB_28 _ hx, b _ _ (by decide) (by decide)]
  · rw [kpB_29 _ hx, b _ _ (by decide) (by decide)]
  · rw [kpB_30 _ hx, b _ _ (by decide) (by decide)]
  · rw [kpB_31 _ hx, b _ _ (by decide) (by decide)]
  · rw [kpB_32 _ hx, b _ _ (by decide) (by decide)]
  · rw [kpB_33 _ hx, b _ _ (by decide) (by decide)]
theorem was_o {s s2 s0 : mS} (h : was s s0) (h53 : s2 53 0 = s 53 0) (h54 : ∀ j, s2 54 j = s 54 j) (h55 : ∀ j, s2 55 j = s 55 j) : was s2 s0 := by
  unfold was at *
  simp only [h53, h54, h55]
  exact h
theorem udA_o (s : mS) {k : Nat} (h : k < 8 ∨ 17 < k) (j : Nat) : udA s k j = s k j := by
  unfold udA
  rw [cbS_o _ _ _ _ _ _ (by omega), cbS_o _ _ _ _ _ _ (by omega), cbS_o _ _ _ _ _ _ (by omega), cbS_o _ _ _ _ _ _ (by omega), cbS_o _ _ _ _ _ _ (by omega), cbS_o _ _ _ _ _ _ (by omega), cbS_o _ _ _ _ _ _ (by omega), cbS_o _ _ _ _ _ _ (by omega), cbS_o _ _ _ _ _ _ (by omega), cbS_o _ _ _ _ _ _ (by omega)]
theorem udA_8 (s : mS) {p : Nat} (hp : p < 60) : udA s 8 p = s 54 (0 + p) := by
  unfold udA
  rw [cbS_o _ _ _ _ _ _ (by decide)]
  rw [cbS_o _ _ _ _ _ _ (by decide)]
  rw [cbS_o _ _ _ _ _ _ (by decide)]
  rw [cbS_o _ _ _ _ _ _ (by decide)]
  rw [cbS_o _ _ _ _ _ _ (by decide)]
  rw [cbS_o _ _ _ _ _ _ (by decide)]
  rw [cbS_o _ _ _ _ _ _ (by decide)]
  rw [cbS_o _ _ _ _ _ _ (by decide)]
  rw [cbS_o _ _ _ _ _ _ (by decide)]
  rw [cbS_at _ _ _ (by decide), if_pos (by omega)]
theorem udA_9 (s : mS) {p : Nat} (hp : p < 60) : udA s 9 p = s 54 (60 + p) := by
  unfold udA
  rw [cbS_o _ _ _ _ _ _ (by decide)]
  rw [cbS_o _ _ _ _ _ _ (by decide)]
  rw [cbS_o _ _ _ _ _ _ (by decide)]
  rw [cbS_o _ _ _ _ _ _ (by decide)]
  rw [cbS_o _ _ _ _ _ _ (by decide)]
  rw [cbS_o _ _ _ _ _ _ (by decide)]
  rw [cbS_o _ _ _ _ _ _ (by decide)]
  rw [cbS_o _ _ _ _ _ _ (by decide)]
  rw [cbS_at _ _ _ (by decide), if_pos (by omega)]
  rw [cbS_o _ _ _ _ _ _ (by decide)]
theorem udA_10 (s : mS) {p : Nat} (hp : p < 60) : udA s 10 p = s 54 (120 + p) := by
  unfold udA
  rw [cbS_o _ _ _ _ _ _ (by decide)]
  rw [cbS_o _ _ _ _ _ _ (by decide)]
  rw [cbS_o _ _ _ _ _ _ (by decide)]
  rw [cbS_o _ _ _ _ _ _ (by decide)]
  rw [cbS_o _ _ _ _ _ _ (by decide)]
  rw [cbS_o _ _ _ _ _ _ (by decide)]
  rw [cbS_o _ _ _ _ _ _ (by decide)]
  rw [cbS_at _ _ _ (by decide), if_pos (by omega)]
  rw [cbS_o _ _ _ _ _ _ (by decide), cbS_o _ _ _ _ _ _ (by decide)]
theorem udA_11 (s : mS) {p : Nat} (hp : p < 60) : udA s 11 p = s 54 (180 + p) := by
  unfold udA
  rw [cbS_o _ _ _ _ _ _ (by decide)]
  rw [cbS_o _ _ _ _ _ _ (by decide)]
  rw [cbS_o _ _ _ _ _ _ (by decide)]
  rw [cbS_o _ _ _ _ _ _ (by decide)]
  rw [cbS_o _ _ _ _ _ _ (by decide)]
  rw [cbS_o _ _ _ _ _ _ (by decide)]
  rw [cbS_at _ _ _ (by decide), if_pos (by omega)]
  rw [cbS_o _ _ _ _ _ _ (by decide), cbS_o _ _ _ _ _ _ (by decide), cbS_o _ _ _ _ _ _ (by decide)]
theorem udA_12 (s : mS) {p : Nat} (hp : p < 60) : udA s 12 p = s 54 (240 + p) := by
  unfold udA
  rw [cbS_o _ _ _ _ _ _ (by decide)]
  rw [cbS_o _ _ _ _ _ _ (by decide)]
  rw [cbS_o _ _ _ _ _ _ (by decide)]
  rw [cbS_o _ _ _ _ _ _ (by decide)]
  rw [cbS_o _ _ _ _ _ _ (by decide)]
  rw [cbS_at _ _ _ (by decide), if_pos (by omega)]
  rw [cbS_o _ _ _ _ _ _ (by decide), cbS_o _ _ _ _ _ _ (by decide), cbS_o _ _ _ _ _ _ (by decide), cbS_o _ _ _ _ _ _ (by decide)]
theorem udA_13 (s : mS) {p : Nat} (hp : p < 60) : udA s 13 p = s 54 (300 + p) := by
  unfold udA
  rw [cbS_o _ _ _ _ _ _ (by decide)]
  rw [cbS_o _ _ _ _ _ _ (by decide)]
  rw [cbS_o _ _ _ _ _ _ (by decide)]
  rw [cbS_o _ _ _ _ _ _ (by decide)]
  rw [cbS_at _ _ _ (by decide), if_pos (by omega)]
  rw [cbS_o _ _ _ _ _ _ (by decide), cbS_o _ _ _ _ _ _ (by decide), cbS_o _ _ _ _ _ _ (by decide), cbS_o _ _ _ _ _ _ (by decide), cbS_o _ _ _ _ _ _ (by decide)]
theorem udA_14 (s : mS) {p : Nat} (hp : p < 60) : udA s 14 p = s 54 (360 + p) := by
  unfold udA
  rw [cbS_o _ _ _ _ _ _ (by decide)]
  rw [cbS_o _ _ _ _ _ _ (by decide)]
  rw [cbS_o _ _ _ _ _ _ (by decide)]
  rw [cbS_at _ _ _ (by decide), if_pos (by omega)]
  rw [cbS_o _ _ _ _ _ _ (by decide), cbS_o _ _ _ _ _ _ (by decide), cbS_o _ _ _ _ _ _ (by decide), cbS_o _ _ _ _ _ _ (by decide), cbS_o _ _ _ _ _ _ (by decide), cbS_o _ _ _ _ _ _ (by decide)]
theorem udA_15 (s : mS) {p : Nat} (hp : p < 60) : udA s 15 p = s 54 (420 + p) := by
  unfold udA
  rw [cbS_o _ _ _ _ _ _ (by decide)]
  rw [cbS_o _ _ _ _ _ _ (by decide)]
  rw [cbS_at _ _ _ (by decide), if_pos (by omega)]
  rw [cbS_o _ _ _ _ _ _ (by decide), cbS_o _ _ _ _ _ _ (by decide), cbS_o _ _ _ _ _ _ (by decide), cbS_o _ _ _ _ _ _ (by decide), cbS_o _ _ _ _ _ _ (by decide), cbS_o _ _ _ _ _ _ (by decide), cbS_o _ _ _ _ _ _ (by decide)]
theorem udA_17 (s : mS) {p : Nat} (hp : p < 60) : udA s 17 p = s 54 (480 + p) := by
  unfold udA
  rw [cbS_o _ _ _ _ _ _ (by decide)]
  rw [cbS_at _ _ _ (by decide), if_pos (by omega)]
  rw [cbS_o _ _ _ _ _ _ (by decide), cbS_o _ _ _ _ _ _ (by decide), cbS_o _ _ _ _ _ _ (by decide), cbS_o _ _ _ _ _ _ (by decide), cbS_o _ _ _ _ _ _ (by decide), cbS_o _ _ _ _ _ _ (by decide), cbS_o _ _ _ _ _ _ (by decide), cbS_o _ _ _ _ _ _ (by decide)]
theorem udA_16 (s : mS) {p : Nat} (hp : p < 60) : udA s 16 p = s 54 (540 + p) := by
  unfold udA
  rw [cbS_at _ _ _ (by decide), if_pos (by omega)]
  rw [cbS_o _ _ _ _ _ _ (by decide), cbS_o _ _ _ _ _ _ (by decide), cbS_o _ _ _ _ _ _ (by decide), cbS_o _ _ _ _ _ _ (by decide), cbS_o _ _ _ _ _ _ (by decide), cbS_o _ _ _ _ _ _ (by decide), cbS_o _ _ _ _ _ _ (by decide), cbS_o _ _ _ _ _ _ (by decide), cbS_o _ _ _ _ _ _ (by decide)]
theorem udB_o (s : mS) {k : Nat} (h : k < 26 ∨ 33 < k) (j : Nat) : udB s k j = s k j := by
  unfold udB
  rw [cbS_o _ _ _ _ _ _ (by omega), cbS_o _ _ _ _ _ _ (by omega), cbS_o _ _ _ _ _ _ (by omega), cbS_o _ _ _ _ _ _ (by omega), cbS_o _ _ _ _ _ _ (by omega), cbS_o _ _ _ _ _ _ (by omega), cbS_o _ _ _ _ _ _ (by omega), cbS_o _ _ _ _ _ _ (by omega)]
theorem udB_26 (s : mS) {x : Nat} (hx : x < 400) : udB s 26 x = s 55 (0 + x) := by
  unfold udB
  rw [cbS_o _ _ _ _ _ _ (by decide)]
  rw [cbS_o _ _ _ _ _ _ (by decide)]
  rw [cbS_o _ _ _ _ _ _ (by decide)]
  rw [cbS_o _ _ _ _ _ _ (by decide)]
  rw [cbS_o _ _ _ _ _ _ (by decide)]
  rw [cbS_o _ _ _ _ _ _ (by decide)]
  rw [cbS_o _ _ _ _ _ _ (by decide)]
  rw [cbS_at _ _ _ (by decide), if_pos (by omega)]
theorem udB_27 (s : mS) {x : Nat} (hx : x < 400) : udB s 27 x = s 55 (400 + x) := by
  unfold udB
  rw [cbS_o _ _ _ _ _ _ (by decide)]
  rw [cbS_o _ _ _ _ _ _ (by decide)]
  rw [cbS_o _ _ _ _ _ _ (by decide)]
  rw [cbS_o _ _ _ _ _ _ (by decide)]
  rw [cbS_o _ _ _ _ _ _ (by decide)]
  rw [cbS_o _ _ _ _ _ _ (by decide)]
  rw [cbS_at _ _ _ (by decide), if_pos (by omega)]
  rw [cbS_o _ _ _ _ _ _ (by decide)]
theorem udB_28 (s : mS) {x : Nat} (hx : x < 400) : udB s 28 x = s 55 (800 + x) := by
  unfold udB
  rw [cbS_o _ _ _ _ _ _ (by decide)]
  rw [cbS_o _ _ _ _ _ _ (by decide)]
  rw [cbS_o _ _ _ _ _ _ (by decide)]
  rw [cbS_o _ _ _ _ _ _ (by decide)]
  rw [cbS_o _ _ _ _ _ _ (by decide)]
  rw [cbS_at _ _ _ (by decide), if_pos (by omega)]
  rw [cbS_o _ _ _ _ _ _ (by decide), cbS_o _ _ _ _ _ _ (by decide)]
theorem udB_29 (s : mS) {x : Nat} (hx : x < 400) : udB s 29 x = s 55 (1200 + x) := by
  unfold udB
  rw [cbS_o _ _ _ _ _ _ (by decide)]
  rw [cbS_o _ _ _ _ _ _ (by decide)]
  rw [cbS_o _ _ _ _ _ _ (by decide)]
  rw [cbS_o _ _ _ _ _ _ (by decide)]
  rw [cbS_at _ _ _ (by decide), if_pos (by omega)]
  rw [cbS_o _ _ _ _ _ _ (by decide), cbS_o _ _ _ _ _ _ (by decide), cbS_o _ _ _ _ _ _ (by decide)]
theorem udB_30 (s : mS) {x : Nat} (hx : x < 400) : udB s 30 x = s 55 (1600 + x) := by
  unfold udB
  rw [cbS_o _ _ _ _ _ _ (by decide)]
  rw [cbS_o _ _ _ _ _ _ (by decide)]
  rw [cbS_o _ _ _ _ _ _ (by decide)]
  rw [cbS_at _ _ _ (by decide), if_pos (by omega)]
  rw [cbS_o _ _ _ _ _ _ (by decide), cbS_o _ _ _ _ _ _ (by decide), cbS_o _ _ _ _ _ _ (by decide), cbS_o _ _ _ _ _ _ (by decide)]
theorem udB_31 (s : mS) {x : Nat} (hx : x < 400) : udB s 31 x = s 55 (2000 + x) := by
  unfold udB
  rw [cbS_o _ _ _ _ _ _ (by decide)]
  rw [cbS_o _ _ _ _ _ _ (by decide)]
  rw [cbS_at _ _ _ (by decide), if_pos (by omega)]
  rw [cbS_o _ _ _ _ _ _ (by decide), cbS_o _ _ _ _ _ _ (by decide), cbS_o _ _ _ _ _ _ (by decide), cbS_o _ _ _ _ _ _ (by decide), cbS_o _ _ _ _ _ _ (by decide)]
theorem udB_32 (s : mS) {x : Nat} (hx : x < 400) : udB s 32 x = s 55 (2400 + x) := by
  unfold udB
  rw [cbS_o _ _ _ _ _ _ (by decide)]
  rw [cbS_at _ _ _ (by decide), if_pos (by omega)]
  rw [cbS_o _ _ _ _ _ _ (by decide), cbS_o _ _ _ _ _ _ (by decide), cbS_o _ _ _ _ _ _ (by decide), cbS_o _ _ _ _ _ _ (by decide), cbS_o _ _ _ _ _ _ (by decide), cbS_o _ _ _ _ _ _ (by decide)]
theorem udB_33 (s : mS) {x : Nat} (hx : x < 400) : udB s 33 x = s 55 (2800 + x) := by
  unfold udB
  rw [cbS_at _ _ _ (by decide), if_pos (by omega)]
  rw [cbS_o _ _ _ _ _ _ (by decide), cbS_o _ _ _ _ _ _ (by decide), cbS_o _ _ _ _ _ _ (by decide), cbS_o _ _ _ _ _ _ (by decide), cbS_o _ _ _ _ _ _ (by decide), cbS_o _ _ _ _ _ _ (by decide), cbS_o _ _ _ _ _ _ (by decide)]
/-- what undo brings back -/
theorem undo_v {s s0 : mS} (h52 : ¬ s 52 0 = 0) (h : was s s0) : (∀ k p, 8 ≤ k → k ≤ 17 → p < 60 → f_undo s k p = s0 k p) ∧ f_undo s 18 0 = s0 18 0 ∧ (∀ k x, 26 ≤ k → k ≤ 33 → x < 400 → f_undo s k x = s0 k x) ∧ f_undo s 1 0 = s 1 0 - 1 ∧ f_undo s 47 0 = 0 ∧ f_undo s 52 0 = 0 ∧ (∀ k j, (1 < k ∧ k < 8) ∨ (18 < k ∧ k < 26) ∨ (33 < k ∧ k < 47) ∨ (47 < k ∧ k < 52) → f_undo s k j = s k j) ∧ (∀ j, j ≠ 0 → f_undo s 1 j = s 1 j ∧ f_undo s 47 j = s 47 j ∧ f_undo s 18 j = s 18 j) := by
  obtain ⟨h53, p8, p9, p10, p11, p12, p13, p14, p15, p17, p16, x26, x27, x28, x29, x30, x31, x32, x33⟩ := h
  unfold f_undo udC
  rw [if_neg h52]
  have u : ∀ k j, k ≠ 0 → su s 0 0 0 k j = s k j := fun k j q => su_other _ _ q
  generalize hq : su s 0 0 0 = q at u
  have c : ∀ k j, k ≠ 1 → k ≠ 47 → k ≠ 52 → (∀ t : mS, su (su (su t 1 0 (t 1 0 - 1)) 47 0 0) 52 0 0 k j = t k j) := fun k j a b d t => by rw [su_other _ _ d, su_other _ _ b, su_other _ _ a]
  have d : ∀ k j, (k < 26 ∨ 33 < k) → k ≠ 18 → udB (su (udA q) 18 0 (udA q 53 0)) k j = udA q k j := fun k j a b => by rw [udB_o _ a, su_other _ _ b]
  refine ⟨fun k p h1 h2 hp => ?_, ?_, fun k x h1 h2 hx => ?_, ?_, ?_, ?_, fun k j hk => ?_, fun j hj => ?_⟩
  · rw [c _ _ (by omega) (by omega) (by omega), d _ _ (by omega) (by omega)]
    have hk : k = 8 ∨ k = 9 ∨ k = 10 ∨ k = 11 ∨ k = 12 ∨ k = 13 ∨ k = 14 ∨ k = 15 ∨ k = 17 ∨ k = 16 := by omega
    rcases hk with rfl | rfl | rfl | rfl | rfl | rfl | rfl | rfl | rfl | rfl
    · rw [udA_8 _ hp, u _ _ (by decide)]; exact p8 p hp
    · rw [udA_9 _ hp, u _ _ (by decide)]; exact p9 p hp
    · rw [udA_10 _ hp, u _ _ (by decide)]; exact p10 p hp
    · rw [udA_11 _ hp, u _ _ (by decide)]; exact p11 p hp
    · rw [udA_12 _ hp, u _ _ (by decide)]; exact p12 p hp
    · rw [udA_13 _ hp, u _ _ (by decide)]; exact p13 p hp
    · rw [udA_14 _ hp, u _ _ (by decide)]; exact p14 p hp
    · rw [udA_15 _ hp, u _ _ (by decide)]; exact p15 p hp
    · rw [udA_17 _ hp, u _ _ (by decide)]; exact p17 p hp
    · rw [udA_16 _ hp, u _ _ (by decide)]; exact p16 p hp
  · rw [c _ _ (by decide) (by decide) (by decide), udB_o _ (by decide)]
    have : su (udA q) 18 0 (udA q 53 0) 18 0 = udA q 53 0 := by simp [su]
    rw [this, udA_o _ (by decide), u _ _ (by decide)]; exact h53
  · rw [c _ _ (by omega) (by omega) (by omega)]
    have hk : k = 26 ∨ k = 27 ∨ k = 28 ∨ k = 29 ∨ k = 30 ∨ k = 31 ∨ k = 32 ∨ k = 33 := by omega
    rcases hk with rfl | rfl | rfl | rfl | rfl | rfl | rfl | rfl
    · rw [udB_26 _ hx, su_other _ _ (by decide), udA_o _ (by decide), u _ _ (by decide)]; exact x26 x hx
    · rw [udB_27 _ hx, su_other _ _ (by decide), udA_o _ (by decide), u _ _ (by decide)]; exact x27 x hx
    · rw [udB_28 _ hx, su_other _ _ (by decide), udA_o _ (by decide), u _ _ (by decide)]; exact x28 x hx
    · rw [udB_29 _ hx, su_other _ _ (by decide), udA_o _ (by decide), u _ _ (by decide)]; exact x29 x hx
    · rw [udB_30 _ hx, su_other _ _ (by decide), udA_o _ (by decide), u _ _ (by decide)]; exact x30 x hx
    · rw [udB_31 _ hx, su_other _ _ (by decide), udA_o _ (by decide), u _ _ (by decide)]; exact x31 x hx
    · rw [udB_32 _ hx, su_other _ _ (by decide), udA_o _ (by decide), u _ _ (by decide)]; exact x32 x hx
    · rw [udB_33 _ hx, su_other _ _ (by decide), udA_o _ (by decide), u _ _ (by decide)]; exact x33 x hx
  · rw [su_other _ _ (by decide), su_other _ _ (by decide)]
    generalize ht : udB (su (udA q) 18 0 (udA q 53 0)) = t
    have : t 1 0 = s 1 0 := by rw [← ht, d _ _ (by decide) (by decide), udA_o _ (by decide), u _ _ (by decide)]
    simp [su, this]
  · simp [su]
  · simp [su]
  · rw [c _ _ (by omega) (by omega) (by omega), d _ _ (by omega) (by omega), udA_o _ (by omega), u _ _ (by omega)]
  · have n : ∀ (t : mS) k v k2, su t k 0 v k2 j = t k2 j := fun t k v k2 => by rw [su_get, if_neg (fun q => hj q.2)]
    refine ⟨?_, ?_, ?_⟩
    · rw [n, n, n, d _ _ (by decide) (by decide), udA_o _ (by decide), u _ _ (by decide)]
    · rw [n, n, n, d _ _ (by decide) (by decide), udA_o _ (by decide), u _ _ (by decide)]
    · rw [n, n, n, udB_o _ (by decide), n, udA_o _ (by decide), u _ _ (by decide)]
