/-! ===== the class as it begins ===== -/
def rl0 (c : Nat) : Nat := match c with | 0 => 0 | 1 => 1 | 2 => 2 | 3 => 3 | 4 => 13 | 5 => 14 | 6 => 15 | 7 => 16 | 8 => 17 | 9 => 18 | 10 => 19 | 11 => 4 | 12 => 20 | 13 => 5 | 14 => 21 | 15 => 6 | 16 => 22 | 17 => 23 | 18 => 24 | 19 => 25 | _ => 99
def A00 (b : Nat) (k _i : Nat) : Nat := match k with | 0 => b | 1 => b + 1 | 2 => b + 2 | 3 => b + 3 | 13 => b + 4 | 14 => b + 5 | 15 => b + 6 | 16 => b + 7 | 17 => b + 8 | 18 => b + 9 | 19 => b + 10 | 4 => b + 11 | 20 => b + 12 | 5 => b + 13 | 21 => b + 14 | 6 => b + 15 | 22 => b + 16 | 23 => b + 17 | 24 => b + 18 | 25 => b + 19 | _ => 0
def z00 (g : Nat × Nat × Nat) (K : xH) : zT := ((fun a => if K.1 ≤ a ∧ a < K.1 + 20 then some (rl0 (a - K.1), 0) else none, (fun _ => g.2.1, fun _ => 0)), (K.1 + 20, K.2.1 + 10971, K.2.2))
def s00 : mS := su (su (su (su (fun _ _ => 0) 40 0 1) 41 0 8) 42 0 4) 43 0 4
def o00 : mS := fun _ _ => 0
section Z0
variable {g : Nat × Nat × Nat} {K : xH}
theorem z00_r {c : Nat} (h : c < 20) : (z00 g K).1.1 (K.1 + c) = some (rl0 c, 0) := by
  show (if K.1 ≤ K.1 + c ∧ K.1 + c < K.1 + 20 then some (rl0 (K.1 + c - K.1), 0) else none) = _
  rw [if_pos (by omega), Nat.add_sub_cancel_left]
theorem z00_n {a : Nat} (h : ¬ (K.1 ≤ a ∧ a < K.1 + 20)) : (z00 g K).1.1 a = none := by
  show (if K.1 ≤ a ∧ a < K.1 + 20 then _ else none) = _
  rw [if_neg h]
theorem c20 {c : Nat} (h : c < 20) : c = 0 ∨ c = 1 ∨ c = 2 ∨ c = 3 ∨ c = 4 ∨ c = 5 ∨ c = 6 ∨ c = 7 ∨ c = 8 ∨ c = 9 ∨ c = 10 ∨ c = 11 ∨ c = 12 ∨ c = 13 ∨ c = 14 ∨ c = 15 ∨ c = 16 ∨ c = 17 ∨ c = 18 ∨ c = 19 := by omega
theorem z00_a {c : Nat} (h : c < 20) : ad (A00 K.1) (z00 g K) (rl0 c) 0 = K.1 + c := by
  rcases c20 h with rfl | rfl | rfl | rfl | rfl | rfl | rfl | rfl | rfl | rfl | rfl | rfl | rfl | rfl | rfl | rfl | rfl | rfl | rfl | rfl <;> rfl
theorem z00_l {c : Nat} (h : c < 20) : lv (z00 g K) 0 0 (rl0 c) 0 := by
  rcases c20 h with rfl | rfl | rfl | rfl | rfl | rfl | rfl | rfl | rfl | rfl | rfl | rfl | rfl | rfl | rfl | rfl | rfl | rfl | rfl | rfl <;> exact lvF _ (by decide) (by decide)
theorem z00_k {k i : Nat} (h : lv (z00 g K) 0 0 k i) : i = 0 ∧ ∃ c, c < 20 ∧ k = rl0 c := by
  rcases h with ⟨h1, h2, h3⟩ | h | h
  · refine ⟨h2, ?_⟩
    have h4 : ¬ (7 ≤ k ∧ k ≤ 12) := fun w => h3 w.1 w.2 rfl
    have : k = 0 ∨ k = 1 ∨ k = 2 ∨ k = 3 ∨ k = 13 ∨ k = 14 ∨ k = 15 ∨ k = 16 ∨ k = 17 ∨ k = 18 ∨ k = 19 ∨ k = 4 ∨ k = 20 ∨ k = 5 ∨ k = 21 ∨ k = 6 ∨ k = 22 ∨ k = 23 ∨ k = 24 ∨ k = 25 := by omega
    rcases this with rfl | rfl | rfl | rfl | rfl | rfl | rfl | rfl | rfl | rfl | rfl | rfl | rfl | rfl | rfl | rfl | rfl | rfl | rfl | rfl
    · exact ⟨0, by decide, rfl⟩
    · exact ⟨1, by decide, rfl⟩
    · exact ⟨2, by decide, rfl⟩
    · exact ⟨3, by decide, rfl⟩
    · exact ⟨4, by decide, rfl⟩
    · exact ⟨5, by decide, rfl⟩
    · exact ⟨6, by decide, rfl⟩
    · exact ⟨7, by decide, rfl⟩
    · exact ⟨8, by decide, rfl⟩
    · exact ⟨9, by decide, rfl⟩
    · exact ⟨10, by decide, rfl⟩
    · exact ⟨11, by decide, rfl⟩
    · exact ⟨12, by decide, rfl⟩
    · exact ⟨13, by decide, rfl⟩
    · exact ⟨14, by decide, rfl⟩
    · exact ⟨15, by decide, rfl⟩
    · exact ⟨16, by decide, rfl⟩
    · exact ⟨17, by decide, rfl⟩
    · exact ⟨18, by decide, rfl⟩
    · exact ⟨19, by decide, rfl⟩
  · omega
  · omega
theorem zok0 (hb : g.1 ≤ K.1) (hed : g.2.1 < g.1 ∧ ∃ f, K.2.2 g.2.1 = some (.inr (5, 0, f))) (h1 : K.1 + 20 ≤ g.1 + 500000) (h2 : K.2.1 + 10971 ≤ 3000000) : zok g (A00 K.1) (z00 g K) 0 0 := by
  refine ⟨fun k i h => ?_, fun a k i h => ?_, fun _ _ _ => rfl, hed, fun _ _ => Nat.zero_le _, ⟨by decide, by decide⟩, ?_, ?_⟩
  · obtain ⟨rfl, c, hc, rfl⟩ := z00_k h
    rw [z00_a hc, z00_r hc]
    exact ⟨rfl, by omega, show K.1 + c < K.1 + 20 by omega⟩
  · by_cases e : K.1 ≤ a ∧ a < K.1 + 20
    · obtain ⟨c, rfl⟩ : ∃ c, a = K.1 + c := ⟨a - K.1, by omega⟩
      have hc : c < 20 := by omega
      rw [z00_r hc] at h
      obtain ⟨e1, e2⟩ := Prod.mk.inj (Option.some.inj h)
      subst e1 e2
      exact ⟨z00_l hc, (z00_a hc).symm⟩
    · rw [z00_n e] at h
      exact absurd h (by simp)
  · show K.1 + 20 ≤ g.1 + 500000 + 0
    omega
  · show K.2.1 + 10971 ≤ 3000000 + 0
    omega
theorem cp0 : tb K [.inl (10, oF [.ref (K.1 + 1), .ref (K.1 + 2), .ref (K.1 + 3), .ref (K.1 + 4), .ref (K.1 + 7), .ref (K.1 + 9), .ref (K.1 + 10), .ref (K.1 + 12), .ref (K.1 + 14), .ref (K.1 + 16), .int 0, .int 1, .int 0, .int 0, .int 0]), .inl (0, oF [.int 0, .ref g.2.1, .int 0]), .inl (0, oF [.int 0, .ref g.2.1, .int 0]), .inl (0, oF [.int 0, .ref g.2.1, .int 0]), .inl (8, oF [.ref (K.1 + 5), .ref (K.1 + 6)]), .inr (0, 9600, fun _ => .int 0), .inr (0, 400, fun _ => .int 0), .inl (2, oF [.ref (K.1 + 8), .int 0]), .inr (0, 24, fun _ => .int 0), .inl (5, oF [.int 8, .int 4, .int 4]), .inl (6, oF [.ref (K.1 + 11)]), .inl (0, oF [.int 0, .ref g.2.1, .int 0]), .inl (6, oF [.ref (K.1 + 13)]), .inl (0, oF [.int 0, .ref g.2.1, .int 0]), .inl (6, oF [.ref (K.1 + 15)]), .inl (0, oF [.int 0, .ref g.2.1, .int 0]), .inl (1, oF [.ref (K.1 + 17), .ref (K.1 + 18), .ref (K.1 + 19), .int 0]), .inr (0, 300, fun _ => .int 0), .inr (0, 300, fun _ => .int 0), .inr (0, 300, fun _ => .int 0)] 10971 = cp (A00 K.1) (z00 g K) s00 o00 := by
  refine cp_ext rfl rfl (fun a => ?_)
  by_cases e : K.1 ≤ a ∧ a < K.1 + 20
  · obtain ⟨c, rfl⟩ : ∃ c, a = K.1 + c := ⟨a - K.1, by omega⟩
    have hc : c < 20 := by omega
    rw [tb_get hc]
    simp only [cp, z00_r hc]
    rcases c20 hc with rfl | rfl | rfl | rfl | rfl | rfl | rfl | rfl | rfl | rfl | rfl | rfl | rfl | rfl | rfl | rfl | rfl | rfl | rfl | rfl <;> rfl
  · have : (tb K [.inl (10, oF [.ref (K.1 + 1), .ref (K.1 + 2), .ref (K.1 + 3), .ref (K.1 + 4), .ref (K.1 + 7), .ref (K.1 + 9), .ref (K.1 + 10), .ref (K.1 + 12), .ref (K.1 + 14), .ref (K.1 + 16), .int 0, .int 1, .int 0, .int 0, .int 0]), .inl (0, oF [.int 0, .ref g.2.1, .int 0]), .inl (0, oF [.int 0, .ref g.2.1, .int 0]), .inl (0, oF [.int 0, .ref g.2.1, .int 0]), .inl (8, oF [.ref (K.1 + 5), .ref (K.1 + 6)]), .inr (0, 9600, fun _ => .int 0), .inr (0, 400, fun _ => .int 0), .inl (2, oF [.ref (K.1 + 8), .int 0]), .inr (0, 24, fun _ => .int 0), .inl (5, oF [.int 8, .int 4, .int 4]), .inl (6, oF [.ref (K.1 + 11)]), .inl (0, oF [.int 0, .ref g.2.1, .int 0]), .inl (6, oF [.ref (K.1 + 13)]), .inl (0, oF [.int 0, .ref g.2.1, .int 0]), .inl (6, oF [.ref (K.1 + 15)]), .inl (0, oF [.int 0, .ref g.2.1, .int 0]), .inl (1, oF [.ref (K.1 + 17), .ref (K.1 + 18), .ref (K.1 + 19), .int 0]), .inr (0, 300, fun _ => .int 0), .inr (0, 300, fun _ => .int 0), .inr (0, 300, fun _ => .int 0)] 10971).2.2 a = K.2.2 a := by
      simp only [tb]
      by_cases e2 : K.1 ≤ a
      · rw [if_pos e2, List.getElem?_eq_none (by simp only [List.length_cons, List.length_nil]; omega), Option.none_or]
      · rw [if_neg e2, Option.none_or]
    rw [this]
    simp only [cp, z00_n e]
    rfl
end Z0
