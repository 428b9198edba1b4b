/-! ===== the reference as a state: s k j is the j-th of its k-th field (j = 0 for a number) ===== -/
abbrev mS : Type := Nat → Nat → Int32
def su (s : mS) (k j : Nat) (v : Int32) : mS := fun k2 j2 => if k2 = k ∧ j2 = j then v else s k2 j2
/-- fields by the order in which their rows are made -/
def mfs : List (Nat × Nat × Nat) := [(3, 0, 60), (4, 0, 60), (5, 0, 60), (6, 1, 60), (7, 1, 24000), (8, 0, 60), (9, 0, 60), (10, 0, 60), (11, 0, 60), (12, 0, 60), (13, 0, 60), (14, 0, 60), (15, 0, 60), (16, 0, 60), (17, 0, 60), (20, 1, 400), (21, 0, 400), (22, 0, 400), (23, 0, 400), (24, 0, 400), (25, 1, 400), (26, 0, 400), (27, 0, 400), (28, 0, 400), (29, 0, 400), (30, 0, 400), (31, 0, 400), (32, 0, 400), (33, 0, 400), (34, 0, 9600), (35, 0, 400), (36, 1, 400), (38, 0, 12), (39, 0, 12), (44, 0, 300), (45, 0, 300), (46, 0, 300), (50, 0, 400), (51, 0, 60), (54, 0, 600), (55, 0, 3200)]
def mpos (k : Nat) : Option Nat := ([(3, 0), (4, 1), (5, 2), (6, 3), (7, 4), (8, 5), (9, 6), (10, 7), (11, 8), (12, 9), (13, 10), (14, 11), (15, 12), (16, 13), (17, 14), (20, 15), (21, 16), (22, 17), (23, 18), (24, 19), (25, 20), (26, 21), (27, 22), (28, 23), (29, 24), (30, 25), (31, 26), (32, 27), (33, 28), (34, 29), (35, 30), (36, 31), (38, 32), (39, 33), (44, 34), (45, 35), (46, 36), (50, 37), (51, 38), (54, 39), (55, 40)] : List (Nat × Nat)).lookup k
def mF (m0 : Nat) (s : mS) (k : Nat) : Value := match mpos k with | some p => .ref (m0 + 1 + p) | none => .int (s k 0)
def mcell (m0 : Nat) (s : mS) (p : Nat) : Option xE := if p = 0 then some (.inl (11, mF m0 s)) else match mfs[p - 1]? with | some q => some (.inr (q.2.1, q.2.2, fun j => .int (s q.1 j))) | none => none
def mput (m0 : Nat) (s : mS) (h : xH) : xH := (h.1, h.2.1, fun a => if m0 ≤ a ∧ a ≤ m0 + 41 then mcell m0 s (a - m0) else h.2.2 a)
theorem mput_at {m0 p : Nat} {s : mS} {h : xH} (hp : p ≤ 41) : (mput m0 s h).2.2 (m0 + p) = mcell m0 s p := by
  simp only [mput]
  rw [if_pos ⟨Nat.le_add_right _ _, Nat.add_le_add_left hp _⟩, Nat.add_sub_cancel_left]
theorem mput_0 {m0 : Nat} {s : mS} {h : xH} : (mput m0 s h).2.2 m0 = some (.inl (11, mF m0 s)) := mput_at (p := 0) (Nat.zero_le _)
theorem mput_1 (m0 : Nat) (s : mS) (h : xH) : (mput m0 s h).1 = h.1 := rfl
theorem mput_2 (m0 : Nat) (s : mS) (h : xH) : (mput m0 s h).2.1 = h.2.1 := rfl
theorem mO (m0 : Nat) (s : mS) (h : xH) : xO (mput m0 s h) m0 11 = true := by simp [xO, mput_0]
theorem mg {m0 : Nat} {s : mS} {h : xH} (k : Nat) : xg (mput m0 s h) m0 k = mF m0 s k := by simp [xg, mput_0]
theorem mrow {m0 : Nat} {s : mS} {h : xH} {p k t n : Nat} (hp : p < 41) (hf : mfs[p]? = some (k, t, n)) : (mput m0 s h).2.2 (m0 + 1 + p) = some (.inr (t, n, fun j => .int (s k j))) := by
  rw [Nat.add_assoc, mput_at (by omega), Nat.add_comm 1 p]
  simp [mcell, hf]
/-- equal states, equal heaps -/
theorem mput_eq {m0 : Nat} {s : mS} {h h2 : xH} (h1 : h2.1 = h.1) (h3 : h2.2.1 = h.2.1) (hc : ∀ a, h2.2.2 a = (mput m0 s h).2.2 a) : h2 = mput m0 s h := by
  obtain ⟨x, y, z⟩ := h2
  simp only at h1 h3 hc
  subst h1 h3
  exact congrArg (fun f => (h.1, h.2.1, f)) (funext hc)
theorem mput_pf {m0 : Nat} {s : mS} {h : xH} {k : Nat} (v : Int32) (hk : mpos k = none) : xpf (mput m0 s h) m0 k (.int v) = mput m0 (su s k 0 v) h := by
  rw [xpf_eq _ _ mput_0]
  refine mput_eq rfl rfl (fun a => ?_)
  simp only [xpc]
  by_cases e : a = m0
  · subst e
    rw [if_pos rfl, mput_0]
    congr 3
    funext j
    by_cases ej : j = k
    · subst ej; simp [updV, mF, hk, su]
    · simp only [updV, if_neg ej, mF]
      cases hm : mpos j with
      | some p => rfl
      | none => simp [su, ej]
  · rw [if_neg e]
    simp only [mput]
    by_cases c : m0 ≤ a ∧ a ≤ m0 + 41
    · rw [if_pos c, if_pos c]
      have h0 : a - m0 ≠ 0 := by omega
      simp only [mcell, if_neg h0]
      cases hq : mfs[a - m0 - 1]? with
      | none => rfl
      | some q =>
        simp only
        congr 4
        funext j
        have : q.1 ≠ k := by
          intro e2
          have := List.mem_of_getElem? hq
          have hall : ∀ q ∈ mfs, mpos q.1 ≠ none := by decide
          exact hall q this (by rw [e2]; exact hk)
        simp [su, this]
    · rw [if_neg c, if_neg c]
theorem mput_pe {m0 : Nat} {s : mS} {h : xH} {p k t n : Nat} (j : Nat) (v : Int32) (hp : p < 41) (hf : mfs[p]? = some (k, t, n)) (hk : mpos k = some p) : xpe (mput m0 s h) (m0 + 1 + p) j (.int v) = mput m0 (su s k j v) h := by
  rw [xpe_eq _ _ (mrow hp hf)]
  refine mput_eq rfl rfl (fun a => ?_)
  simp only [xpc]
  by_cases e : a = m0 + 1 + p
  · subst e
    rw [if_pos rfl, mrow hp hf]
    congr 4
    funext i
    by_cases ei : i = j
    · subst ei; simp [updV, su]
    · simp [updV, su, ei]
  · rw [if_neg e]
    simp only [mput]
    by_cases c : m0 ≤ a ∧ a ≤ m0 + 41
    · rw [if_pos c, if_pos c]
      by_cases h0 : a - m0 = 0
      · simp only [mcell, if_pos h0]
        congr 3
        funext i
        simp only [mF]
        cases hm : mpos i with
        | some p2 => rfl
        | none =>
          have : i ≠ k := by intro e2; rw [e2, hk] at hm; cases hm
          simp [su, this]
      · simp only [mcell, if_neg h0]
        cases hq : mfs[a - m0 - 1]? with
        | none => rfl
        | some q =>
          simp only
          congr 4
          funext i
          have : q.1 ≠ k := by
            intro e2
            have hall : ∀ i, i < 41 → ∀ q, mfs[i]? = some q → mpos q.1 = some i := by decide
            have hlt : a - m0 - 1 < 41 := by omega
            have := hall _ hlt q hq
            rw [e2, hk] at this
            cases this
            omega
          simp [su, this]
    · rw [if_neg c, if_neg c]
theorem mg_0 (m0 : Nat) (s : mS) (h : xH) : xg (mput m0 s h) m0 0 = .int (s 0 0) := mg 0
theorem mp_0 (m0 : Nat) (s : mS) (h : xH) (v : Int32) : xpf (mput m0 s h) m0 0 (.int v) = mput m0 (su s 0 0 v) h := mput_pf v rfl
theorem mg_1 (m0 : Nat) (s : mS) (h : xH) : xg (mput m0 s h) m0 1 = .int (s 1 0) := mg 1
theorem mp_1 (m0 : Nat) (s : mS) (h : xH) (v : Int32) : xpf (mput m0 s h) m0 1 (.int v) = mput m0 (su s 1 0 v) h := mput_pf v rfl
theorem mg_2 (m0 : Nat) (s : mS) (h : xH) : xg (mput m0 s h) m0 2 = .int (s 2 0) := mg 2
theorem mp_2 (m0 : Nat) (s : mS) (h : xH) (v : Int32) : xpf (mput m0 s h) m0 2 (.int v) = mput m0 (su s 2 0 v) h := mput_pf v rfl
theorem mg_3 (m0 : Nat) (s : mS) (h : xH) : xg (mput m0 s h) m0 3 = .ref (m0 + 1 + 0) := mg 3
theorem mr_3 (m0 : Nat) (s : mS) (h : xH) : (mput m0 s h).2.2 (m0 + 1 + 0) = some (.inr (0, 60, fun j => .int (s 3 j))) := mrow (by decide) rfl
theorem mA_3 (m0 : Nat) (s : mS) (h : xH) : xA (mput m0 s h) (m0 + 1 + 0) 0 = true := by simp [xA, mr_3]
theorem ml_3 (m0 : Nat) (s : mS) (h : xH) : xl (mput m0 s h) (m0 + 1 + 0) = 60 := by simp [xl, mr_3]
theorem me_3 (m0 : Nat) (s : mS) (h : xH) (j : Nat) : xe (mput m0 s h) (m0 + 1 + 0) j = .int (s 3 j) := by simp [xe, mr_3]
theorem mp_3 (m0 : Nat) (s : mS) (h : xH) (j : Nat) (v : Int32) : xpe (mput m0 s h) (m0 + 1 + 0) j (.int v) = mput m0 (su s 3 j v) h := mput_pe j v (by decide) rfl rfl
theorem mg_4 (m0 : Nat) (s : mS) (h : xH) : xg (mput m0 s h) m0 4 = .ref (m0 + 1 + 1) := mg 4
theorem mr_4 (m0 : Nat) (s : mS) (h : xH) : (mput m0 s h).2.2 (m0 + 1 + 1) = some (.inr (0, 60, fun j => .int (s 4 j))) := mrow (by decide) rfl
theorem mA_4 (m0 : Nat) (s : mS) (h : xH) : xA (mput m0 s h) (m0 + 1 + 1) 0 = true := by simp [xA, mr_4]
theorem ml_4 (m0 : Nat) (s : mS) (h : xH) : xl (mput m0 s h) (m0 + 1 + 1) = 60 := by simp [xl, mr_4]
theorem me_4 (m0 : Nat) (s : mS) (h : xH) (j : Nat) : xe (mput m0 s h) (m0 + 1 + 1) j = .int (s 4 j) := by simp [xe, mr_4]
theorem mp_4 (m0 : Nat) (s : mS) (h : xH) (j : Nat) (v : Int32) : xpe (mput m0 s h) (m0 + 1 + 1) j (.int v) = mput m0 (su s 4 j v) h := mput_pe j v (by decide) rfl rfl
theorem mg_5 (m0 : Nat) (s : mS) (h : xH) : xg (mput m0 s h) m0 5 = .ref (m0 + 1 + 2) := mg 5
theorem mr_5 (m0 : Nat) (s : mS) (h : xH) : (mput m0 s h).2.2 (m0 + 1 + 2) = some (.inr (0, 60, fun j => .int (s 5 j))) := mrow (by decide) rfl
theorem mA_5 (m0 : Nat) (s : mS) (h : xH) : xA (mput m0 s h) (m0 + 1 + 2) 0 = true := by simp [xA, mr_5]
theorem ml_5 (m0 : Nat) (s : mS) (h : xH) : xl (mput m0 s h) (m0 + 1 + 2) = 60 := by simp [xl, mr_5]
theorem me_5 (m0 : Nat) (s : mS) (h : xH) (j : Nat) : xe (mput m0 s h) (m0 + 1 + 2) j = .int (s 5 j) := by simp [xe, mr_5]
theorem mp_5 (m0 : Nat) (s : mS) (h : xH) (j : Nat) (v : Int32) : xpe (mput m0 s h) (m0 + 1 + 2) j (.int v) = mput m0 (su s 5 j v) h := mput_pe j v (by decide) rfl rfl
theorem mg_6 (m0 : Nat) (s : mS) (h : xH) : xg (mput m0 s h) m0 6 = .ref (m0 + 1 + 3) := mg 6
theorem mr_6 (m0 : Nat) (s : mS) (h : xH) : (mput m0 s h).2.2 (m0 + 1 + 3) = some (.inr (1, 60, fun j => .int (s 6 j))) := mrow (by decide) rfl
theorem mA_6 (m0 : Nat) (s : mS) (h : xH) : xA (mput m0 s h) (m0 + 1 + 3) 1 = true := by simp [xA, mr_6]
theorem ml_6 (m0 : Nat) (s : mS) (h : xH) : xl (mput m0 s h) (m0 + 1 + 3) = 60 := by simp [xl, mr_6]
theorem me_6 (m0 : Nat) (s : mS) (h : xH) (j : Nat) : xe (mput m0 s h) (m0 + 1 + 3) j = .int (s 6 j) := by simp [xe, mr_6]
theorem mp_6 (m0 : Nat) (s : mS) (h : xH) (j : Nat) (v : Int32) : xpe (mput m0 s h) (m0 + 1 + 3) j (.int v) = mput m0 (su s 6 j v) h := mput_pe j v (by decide) rfl rfl
theorem mg_7 (m0 : Nat) (s : mS) (h : xH) : xg (mput m0 s h) m0 7 = .ref (m0 + 1 + 4) := mg 7
theorem mr_7 (m0 : Nat) (s : mS) (h : xH) : (mput m0 s h).2.2 (m0 + 1 + 4) = some (.inr (1, 24000, fun j => .int (s 7 j))) := mrow (by decide) rfl
theorem mA_7 (m0 : Nat) (s : mS) (h : xH) : xA (mput m0 s h) (m0 + 1 + 4) 1 = true := by simp [xA, mr_7]
theorem ml_7 (m0 : Nat) (s : mS) (h : xH) : xl (mput m0 s h) (m0 + 1 + 4) = 24000 := by simp [xl, mr_7]
theorem me_7 (m0 : Nat) (s : mS) (h : xH) (j : Nat) : xe (mput m0 s h) (m0 + 1 + 4) j = .int (s 7 j) := by simp [xe, mr_7]
theorem mp_7 (m0 : Nat) (s : mS) (h : xH) (j : Nat) (v : Int32) : xpe (mput m0 s h) (m0 + 1 + 4) j (.int v) = mput m0 (su s 7 j v) h := mput_pe j v (by decide) rfl rfl
theorem mg_8 (m0 : Nat) (s : mS) (h : xH) : xg (mput m0 s h) m0 8 = .ref (m0 + 1 + 5) := mg 8
theorem mr_8 (m0 : Nat) (s : mS) (h : xH) : (mput m0 s h).2.2 (m0 + 1 + 5) = some (.inr (0, 60, fun j => .int (s 8 j))) := mrow (by decide) rfl
theorem mA_8 (m0 : Nat) (s : mS) (h : xH) : xA (mput m0 s h) (m0 + 1 + 5) 0 = true := by simp [xA, mr_8]
theorem ml_8 (m0 : Nat) (s : mS) (h : xH) : xl (mput m0 s h) (m0 + 1 + 5) = 60 := by simp [xl, mr_8]
theorem me_8 (m0 : Nat) (s : mS) (h : xH) (j : Nat) : xe (mput m0 s h) (m0 + 1 + 5) j = .int (s 8 j) := by simp [xe, mr_8]
theorem mp_8 (m0 : Nat) (s : mS) (h : xH) (j : Nat) (v : Int32) : xpe (mput m0 s h) (m0 + 1 + 5) j (.int v) = mput m0 (su s 8 j v) h := mput_pe j v (by decide) rfl rfl
theorem mg_9 (m0 : Nat) (s : mS) (h : xH) : xg (mput m0 s h) m0 9 = .ref (m0 + 1 + 6) := mg 9
theorem mr_9 (m0 : Nat) (s : mS) (h : xH) : (mput m0 s h).2.2 (m0 + 1 + 6) = some (.inr (0, 60, fun j => .int (s 9 j))) := mrow (by decide) rfl
theorem mA_9 (m0 : Nat) (s : mS) (h : xH) : xA (mput m0 s h) (m0 + 1 + 6) 0 = true := by simp [xA, mr_9]
theorem ml_9 (m0 : Nat) (s : mS) (h : xH) : xl (mput m0 s h) (m0 + 1 + 6) = 60 := by simp [xl, mr_9]
theorem me_9 (m0 : Nat) (s : mS) (h : xH) (j : Nat) : xe (mput m0 s h) (m0 + 1 + 6) j = .int (s 9 j) := by simp [xe, mr_9]
theorem mp_9 (m0 : Nat) (s : mS) (h : xH) (j : Nat) (v : Int32) : xpe (mput m0 s h) (m0 + 1 + 6) j (.int v) = mput m0 (su s 9 j v) h := mput_pe j v (by decide) rfl rfl
theorem mg_10 (m0 : Nat) (s : mS) (h : xH) : xg (mput m0 s h) m0 10 = .ref (m0 + 1 + 7) := mg 10
theorem mr_10 (m0 : Nat) (s : mS) (h : xH) : (mput m0 s h).2.2 (m0 + 1 + 7) = some (.inr (0, 60, fun j => .int (s 10 j))) := mrow (by decide) rfl
theorem mA_10 (m0 : Nat) (s : mS) (h : xH) : xA (mput m0 s h) (m0 + 1 + 7) 0 = true := by simp [xA, mr_10]
theorem ml_10 (m0 : Nat) (s : mS) (h : xH) : xl (mput m0 s h) (m0 + 1 + 7) = 60 := by simp [xl, mr_10]
theorem me_10 (m0 : Nat) (s : mS) (h : xH) (j : Nat) : xe (mput m0 s h) (m0 + 1 + 7) j = .int (s 10 j) := by simp [xe, mr_10]
theorem mp_10 (m0 : Nat) (s : mS) (h : xH) (j : Nat) (v : Int32) : xpe (mput m0 s h) (m0 + 1 + 7) j (.int v) = mput m0 (su s 10 j v) h := mput_pe j v (by decide) rfl rfl
theorem mg_11 (m0 : Nat) (s : mS) (h : xH) : xg (mput m0 s h) m0 11 = .ref (m0 + 1 + 8) := mg 11
theorem mr_11 (m0 : Nat) (s : mS) (h : xH) : (mput m0 s h).2.2 (m0 + 1 + 8) = some (.inr (0, 60, fun j => .int (s 11 j))) := mrow (by decide) rfl
theorem mA_11 (m0 : Nat) (s : mS) (h : xH) : xA (mput m0 s h) (m0 + 1 + 8) 0 = true := by simp [xA, mr_11]
theorem ml_11 (m0 : Nat) (s : mS) (h : xH) : xl (mput m0 s h) (m0 + 1 + 8) = 60 := by simp [xl, mr_11]
theorem me_11 (m0 : Nat) (s : mS) (h : xH) (j : Nat) : xe (mput m0 s h) (m0 + 1 + 8) j = .int (s 11 j) := by simp [xe, mr_11]
theorem mp_11 (m0 : Nat) (s : mS) (h : xH) (j : Nat) (v : Int32) : xpe (mput m0 s h) (m0 + 1 + 8) j (.int v) = mput m0 (su s 11 j v) h := mput_pe j v (by decide) rfl rfl
theorem mg_12 (m0 : Nat) (s : mS) (h : xH) : xg (mput m0 s h) m0 12 = .ref (m0 + 1 + 9) := mg 12
theorem mr_12 (m0 : Nat) (s : mS) (h : xH) : (mput m0 s h).2.2 (m0 + 1 + 9) = some (.inr (0, 60, fun j => .int (s 12 j))) := mrow (by decide) rfl
theorem mA_12 (m0 : Nat) (s : mS) (h : xH) : xA (mput m0 s h) (m0 + 1 + 9) 0 = true := by simp [xA, mr_12]
theorem ml_12 (m0 : Nat) (s : mS) (h : xH) : xl (mput m0 s h) (m0 + 1 + 9) = 60 := by simp [xl, mr_12]
theorem me_12 (m0 : Nat) (s : mS) (h : xH) (j : Nat) : xe (mput m0 s h) (m0 + 1 + 9) j = .int (s 12 j) := by simp [xe, mr_12]
theorem mp_12 (m0 : Nat) (s : mS) (h : xH) (j : Nat) (v : Int32) : xpe (mput m0 s h) (m0 + 1 + 9) j (.int v) = mput m0 (su s 12 j v) h := mput_pe j v (by decide) rfl rfl
theorem mg_13 (m0 : Nat) (s : mS) (h : xH) : xg (mput m0 s h) m0 13 = .ref (m0 + 1 + 10) := mg 13
theorem mr_13 (m0 : Nat) (s : mS) (h : xH) : (mput m0 s h).2.2 (m0 + 1 + 10) = some (.inr (0, 60, fun j => .int (s 13 j))) := mrow (by decide) rfl
theorem mA_13 (m0 : Nat) (s : mS) (h : xH) : xA (mput m0 s h) (m0 + 1 + 10) 0 = true := by simp [xA, mr_13]
theorem ml_13 (m0 : Nat) (s : mS) (h : xH) : xl (mput m0 s h) (m0 + 1 + 10) = 60 := by simp [xl, mr_13]
theorem me_13 (m0 : Nat) (s : mS) (h : xH) (j : Nat) : xe (mput m0 s h) (m0 + 1 + 10) j = .int (s 13 j) := by simp [xe, mr_13]
theorem mp_13 (m0 : Nat) (s : mS) (h : xH) (j : Nat) (v : Int32) : xpe (mput m0 s h) (m0 + 1 + 10) j (.int v) = mput m0 (su s 13 j v) h := mput_pe j v (by decide) rfl rfl
theorem mg_14 (m0 : Nat) (s : mS) (h : xH) : xg (mput m0 s h) m0 14 = .ref (m0 + 1 + 11) := mg 14
theorem mr_14 (m0 : Nat) (s : mS) (h : xH) : (mput m0 s h).2.2 (m0 + 1 + 11) = some (.inr (0, 60, fun j => .int (s 14 j))) := mrow (by decide) rfl
theorem mA_14 (m0 : Nat) (s : mS) (h : xH) : xA (mput m0 s h) (m0 + 1 + 11) 0 = true := by simp [xA, mr_14]
theorem ml_14 (m0 : Nat) (s : mS) (h : xH) : xl (mput m0 s h) (m0 + 1 + 11) = 60 := by simp [xl, mr_14]
theorem me_14 (m0 : Nat) (s : mS) (h : xH) (j : Nat) : xe (mput m0 s h) (m0 + 1 + 11) j = .int (s 14 j) := by simp [xe, mr_14]
theorem mp_14 (m0 : Nat) (s : mS) (h : xH) (j : Nat) (v : Int32) : xpe (mput m0 s h) (m0 + 1 + 11) j (.int v) = mput m0 (su s 14 j v) h := mput_pe j v (by decide) rfl rfl
theorem mg_15 (m0 : Nat) (s : mS) (h : xH) : xg (mput m0 s h) m0 15 = .ref (m0 + 1 + 12) := mg 15
theorem mr_15 (m0 : Nat) (s : mS) (h : xH) : (mput m0 s h).2.2 (m0 + 1 + 12) = some (.inr (0, 60, fun j => .int (s 15 j))) := mrow (by decide) rfl
theorem mA_15 (m0 : Nat) (s : mS) (h : xH) : xA (mput m0 s h) (m0 + 1 + 12) 0 = true := by simp [xA, mr_15]
theorem ml_15 (m0 : Nat) (s : mS) (h : xH) : xl (mput m0 s h) (m0 + 1 + 12) = 60 := by simp [xl, mr_15]
theorem me_15 (m0 : Nat) (s : mS) (h : xH) (j : Nat) : xe (mput m0 s h) (m0 + 1 + 12) j = .int (s 15 j) := by simp [xe, mr_15]
theorem mp_15 (m0 : Nat) (s : mS) (h : xH) (j : Nat) (v : Int32) : xpe (mput m0 s h) (m0 + 1 + 12) j (.int v) = mput m0 (su s 15 j v) h := mput_pe j v (by decide) rfl rfl
theorem mg_16 (m0 : Nat) (s : mS) (h : xH) : xg (mput m0 s h) m0 16 = .ref (m0 + 1 + 13) := mg 16
theorem mr_16 (m0 : Nat) (s : mS) (h : xH) : (mput m0 s h).2.2 (m0 + 1 + 13) = some (.inr (0, 60, fun j => .int (s 16 j))) := mrow (by decide) rfl
theorem mA_16 (m0 : Nat) (s : mS) (h : xH) : xA (mput m0 s h) (m0 + 1 + 13) 0 = true := by simp [xA, mr_16]
theorem ml_16 (m0 : Nat) (s : mS) (h : xH) : xl (mput m0 s h) (m0 + 1 + 13) = 60 := by simp [xl, mr_16]
theorem me_16 (m0 : Nat) (s : mS) (h : xH) (j : Nat) : xe (mput m0 s h) (m0 + 1 + 13) j = .int (s 16 j) := by simp [xe, mr_16]
theorem mp_16 (m0 : Nat) (s : mS) (h : xH) (j : Nat) (v : Int32) : xpe (mput m0 s h) (m0 + 1 + 13) j (.int v) = mput m0 (su s 16 j v) h := mput_pe j v (by decide) rfl rfl
theorem mg_17 (m0 : Nat) (s : mS) (h : xH) : xg (mput m0 s h) m0 17 = .ref (m0 + 1 + 14) := mg 17
theorem mr_17 (m0 : Nat) (s : mS) (h : xH) : (mput m0 s h).2.2 (m0 + 1 + 14) = some (.inr (0, 60, fun j => .int (s 17 j))) := mrow (by decide) rfl
theorem mA_17 (m0 : Nat) (s : mS) (h : xH) : xA (mput m0 s h) (m0 + 1 + 14) 0 = true := by simp [xA, mr_17]
theorem ml_17 (m0 : Nat) (s : mS) (h : xH) : xl (mput m0 s h) (m0 + 1 + 14) = 60 := by simp [xl, mr_17]
theorem me_17 (m0 : Nat) (s : mS) (h : xH) (j : Nat) : xe (mput m0 s h) (m0 + 1 + 14) j = .int (s 17 j) := by simp [xe, mr_17]
theorem mp_17 (m0 : Nat) (s : mS) (h : xH) (j : Nat) (v : Int32) : xpe (mput m0 s h) (m0 + 1 + 14) j (.int v) = mput m0 (su s 17 j v) h := mput_pe j v (by decide) rfl rfl
theorem mg_18 (m0 : Nat) (s : mS) (h : xH) : xg (mput m0 s h) m0 18 = .int (s 18 0) := mg 18
theorem mp_18 (m0 : Nat) (s : mS) (h : xH) (v : Int32) : xpf (mput m0 s h) m0 18 (.int v) = mput m0 (su s 18 0 v) h := mput_pf v rfl
theorem mg_19 (m0 : Nat) (s : mS) (h : xH) : xg (mput m0 s h) m0 19 = .int (s 19 0) := mg 19
theorem mp_19 (m0 : Nat) (s : mS) (h : xH) (v : Int32) : xpf (mput m0 s h) m0 19 (.int v) = mput m0 (su s 19 0 v) h := mput_pf v rfl
theorem mg_20 (m0 : Nat) (s : mS) (h : xH) : xg (mput m0 s h) m0 20 = .ref (m0 + 1 + 15) := mg 20
theorem mr_20 (m0 : Nat) (s : mS) (h : xH) : (mput m0 s h).2.2 (m0 + 1 + 15) = some (.inr (1, 400, fun j => .int (s 20 j))) := mrow (by decide) rfl
theorem mA_20 (m0 : Nat) (s : mS) (h : xH) : xA (mput m0 s h) (m0 + 1 + 15) 1 = true := by simp [xA, mr_20]
theorem ml_20 (m0 : Nat) (s : mS) (h : xH) : xl (mput m0 s h) (m0 + 1 + 15) = 400 := by simp [xl, mr_20]
theorem me_20 (m0 : Nat) (s : mS) (h : xH) (j : Nat) : xe (mput m0 s h) (m0 + 1 + 15) j = .int (s 20 j) := by simp [xe, mr_20]
theorem mp_20 (m0 : Nat) (s : mS) (h : xH) (j : Nat) (v : Int32) : xpe (mput m0 s h) (m0 + 1 + 15) j (.int v) = mput m0 (su s 20 j v) h := mput_pe j v (by decide) rfl rfl
theorem mg_21 (m0 : Nat) (s : mS) (h : xH) : xg (mput m0 s h) m0 21 = .ref (m0 + 1 + 16) := mg 21
theorem mr_21 (m0 : Nat) (s : mS) (h : xH) : (mput m0 s h).2.2 (m0 + 1 + 16) = some (.inr (0, 400, fun j => .int (s 21 j))) := mrow (by decide) rfl
theorem mA_21 (m0 : Nat) (s : mS) (h : xH) : xA (mput m0 s h) (m0 + 1 + 16) 0 = true := by simp [xA, mr_21]
theorem ml_21 (m0 : Nat) (s : mS) (h : xH) : xl (mput m0 s h) (m0 + 1 + 16) = 400 := by simp [xl, mr_21]
theorem me_21 (m0 : Nat) (s : mS) (h : xH) (j : Nat) : xe (mput m0 s h) (m0 + 1 + 16) j = .int (s 21 j) := by simp [xe, mr_21]
theorem mp_21 (m0 : Nat) (s : mS) (h : xH) (j : Nat) (v : Int32) : xpe (mput m0 s h) (m0 + 1 + 16) j (.int v) = mput m0 (su s 21 j v) h := mput_pe j v (by decide) rfl rfl
theorem mg_22 (m0 : Nat) (s : mS) (h : xH) : xg (mput m0 s h) m0 22 = .ref (m0 + 1 + 17) := mg 22
theorem mr_22 (m0 : Nat) (s : mS) (h : xH) : (mput m0 s h).2.2 (m0 + 1 + 17) = some (.inr (0, 400, fun j => .int (s 22 j))) := mrow (by decide) rfl
theorem mA_22 (m0 : Nat) (s : mS) (h : xH) : xA (mput m0 s h) (m0 + 1 + 17) 0 = true := by simp [xA, mr_22]
theorem ml_22 (m0 : Nat) (s : mS) (h : xH) : xl (mput m0 s h) (m0 + 1 + 17) = 400 := by simp [xl, mr_22]
theorem me_22 (m0 : Nat) (s : mS) (h : xH) (j : Nat) : xe (mput m0 s h) (m0 + 1 + 17) j = .int (s 22 j) := by simp [xe, mr_22]
theorem mp_22 (m0 : Nat) (s : mS) (h : xH) (j : Nat) (v : Int32) : xpe (mput m0 s h) (m0 + 1 + 17) j (.int v) = mput m0 (su s 22 j v) h := mput_pe j v (by decide) rfl rfl
theorem mg_23 (m0 : Nat) (s : mS) (h : xH) : xg (mput m0 s h) m0 23 = .ref (m0 + 1 + 18) := mg 23
theorem mr_23 (m0 : Nat) (s : mS) (h : xH) : (mput m0 s h).2.2 (m0 + 1 + 18) = some (.inr (0, 400, fun j => .int (s 23 j))) := mrow (by decide) rfl
theorem mA_23 (m0 : Nat) (s : mS) (h : xH) : xA (mput m0 s h) (m0 + 1 + 18) 0 = true := by simp [xA, mr_23]
theorem ml_23 (m0 : Nat) (s : mS) (h : xH) : xl (mput m0 s h) (m0 + 1 + 18) = 400 := by simp [xl, mr_23]
theorem me_23 (m0 : Nat) (s : mS) (h : xH) (j : Nat) : xe (mput m0 s h) (m0 + 1 + 18) j = .int (s 23 j) := by simp [xe, mr_23]
theorem mp_23 (m0 : Nat) (s : mS) (h : xH) (j : Nat) (v : Int32) : xpe (mput m0 s h) (m0 + 1 + 18) j (.int v) = mput m0 (su s 23 j v) h := mput_pe j v (by decide) rfl rfl
theorem mg_24 (m0 : Nat) (s : mS) (h : xH) : xg (mput m0 s h) m0 24 = .ref (m0 + 1 + 19) := mg 24
theorem mr_24 (m0 : Nat) (s : mS) (h : xH) : (mput m0 s h).2.2 (m0 + 1 + 19) = some (.inr (0, 400, fun j => .int (s 24 j))) := mrow (by decide) rfl
theorem mA_24 (m0 : Nat) (s : mS) (h : xH) : xA (mput m0 s h) (m0 + 1 + 19) 0 = true := by simp [xA, mr_24]
theorem ml_24 (m0 : Nat) (s : mS) (h : xH) : xl (mput m0 s h) (m0 + 1 + 19) = 400 := by simp [xl, mr_24]
theorem me_24 (m0 : Nat) (s : mS) (h : xH) (j : Nat) : xe (mput m0 s h) (m0 + 1 + 19) j = .int (s 24 j) := by simp [xe, mr_24]
theorem mp_24 (m0 : Nat) (s : mS) (h : xH) (j : Nat) (v : Int32) : xpe (mput m0 s h) (m0 + 1 + 19) j (.int v) = mput m0 (su s 24 j v) h := mput_pe j v (by decide) rfl rfl
theorem mg_25 (m0 : Nat) (s : mS) (h : xH) : xg (mput m0 s h) m0 25 = .ref (m0 + 1 + 20) := mg 25
theorem mr_25 (m0 : Nat) (s : mS) (h : xH) : (mput m0 s h).2.2 (m0 + 1 + 20) = some (.inr (1, 400, fun j => .int (s 25 j))) := mrow (by decide) rfl
theorem mA_25 (m0 : Nat) (s : mS) (h : xH) : xA (mput m0 s h) (m0 + 1 + 20) 1 = true := by simp [xA, mr_25]
theorem ml_25 (m0 : Nat) (s : mS) (h : xH) : xl (mput m0 s h) (m0 + 1 + 20) = 400 := by simp [xl, mr_25]
theorem me_25 (m0 : Nat) (s : mS) (h : xH) (j : Nat) : xe (mput m0 s h) (m0 + 1 + 20) j = .int (s 25 j) := by simp [xe, mr_25]
theorem mp_25 (m0 : Nat) (s : mS) (h : xH) (j : Nat) (v : Int32) : xpe (mput m0 s h) (m0 + 1 + 20) j (.int v) = mput m0 (su s 25 j v) h := mput_pe j v (by decide) rfl rfl
theorem mg_26 (m0 : Nat) (s : mS) (h : xH) : xg (mput m0 s h) m0 26 = .ref (m0 + 1 + 21) := mg 26
theorem mr_26 (m0 : Nat) (s : mS) (h : xH) : (mput m0 s h).2.2 (m0 + 1 + 21) = some (.inr (0, 400, fun j => .int (s 26 j))) := mrow (by decide) rfl
theorem mA_26 (m0 : Nat) (s : mS) (h : xH) : xA (mput m0 s h) (m0 + 1 + 21) 0 = true := by simp [xA, mr_26]
theorem ml_26 (m0 : Nat) (s : mS) (h : xH) : xl (mput m0 s h) (m0 + 1 + 21) = 400 := by simp [xl, mr_26]
theorem me_26 (m0 : Nat) (s : mS) (h : xH) (j : Nat) : xe (mput m0 s h) (m0 + 1 + 21) j = .int (s 26 j) := by simp [xe, mr_26]
theorem mp_26 (m0 : Nat) (s : mS) (h : xH) (j : Nat) (v : Int32) : xpe (mput m0 s h) (m0 + 1 + 21) j (.int v) = mput m0 (su s 26 j v) h := mput_pe j v (by decide) rfl rfl
theorem mg_27 (m0 : Nat) (s : mS) (h : xH) : xg (mput m0 s h) m0 27 = .ref (m0 + 1 + 22) := mg 27
theorem mr_27 (m0 : Nat) (s : mS) (h : xH) : (mput m0 s h).2.2 (m0 + 1 + 22) = some (.inr (0, 400, fun j => .int (s 27 j))) := mrow (by decide) rfl
theorem mA_27 (m0 : Nat) (s : mS) (h : xH) : xA (mput m0 s h) (m0 + 1 + 22) 0 = true := by simp [xA, mr_27]
theorem ml_27 (m0 : Nat) (s : mS) (h : xH) : xl (mput m0 s h) (m0 + 1 + 22) = 400 := by simp [xl, mr_27]
theorem me_27 (m0 : Nat) (s : mS) (h : xH) (j : Nat) : xe (mput m0 s h) (m0 + 1 + 22) j = .int (s 27 j) := by simp [xe, mr_27]
theorem mp_27 (m0 : Nat) (s : mS) (h : xH) (j : Nat) (v : Int32) : xpe (mput m0 s h) (m0 + 1 + 22) j (.int v) = mput m0 (su s 27 j v) h := mput_pe j v (by decide) rfl rfl
theorem mg_28 (m0 : Nat) (s : mS) (h : xH) : xg (mput m0 s h) m0 28 = .ref (m0 + 1 + 23) := mg 28
theorem mr_28 (m0 : Nat) (s : mS) (h : xH) : (mput m0 s h).2.2 (m0 + 1 + 23) = some (.inr (0, 400, fun j => .int (s 28 j))) := mrow (by decide) rfl
theorem mA_28 (m0 : Nat) (s : mS) (h : xH) : xA (mput m0 s h) (m0 + 1 + 23) 0 = true := by simp [xA, mr_28]
theorem ml_28 (m0 : Nat) (s : mS) (h : xH) : xl (mput m0 s h) (m0 + 1 + 23) = 400 := by simp [xl, mr_28]
theorem me_28 (m0 : Nat) (s : mS) (h : xH) (j : Nat) : xe (mput m0 s h) (m0 + 1 + 23) j = .int (s 28 j) := by simp [xe, mr_28]
theorem mp_28 (m0 : Nat) (s : mS) (h : xH) (j : Nat) (v : Int32) : xpe (mput m0 s h) (m0 + 1 + 23) j (.int v) = mput m0 (su s 28 j v) h := mput_pe j v (by decide) rfl rfl
theorem mg_29 (m0 : Nat) (s : mS) (h : xH) : xg (mput m0 s h) m0 29 = .ref (m0 + 1 + 24) := mg 29
theorem mr_29 (m0 : Nat) (s : mS) (h : xH) : (mput m0 s h).2.2 (m0 + 1 + 24) = some (.inr (0, 400, fun j => .int (s 29 j))) := mrow (by decide) rfl
theorem mA_29 (m0 : Nat) (s : mS) (h : xH) : xA (mput m0 s h) (m0 + 1 + 24) 0 = true := by simp [xA, mr_29]
theorem ml_29 (m0 : Nat) (s : mS) (h : xH) : xl (mput m0 s h) (m0 + 1 + 24) = 400 := by simp [xl, mr_29]
theorem me_29 (m0 : Nat) (s : mS) (h : xH) (j : Nat) : xe (mput m0 s h) (m0 + 1 + 24) j = .int (s 29 j) := by simp [xe, mr_29]
theorem mp_29 (m0 : Nat) (s : mS) (h : xH) (j : Nat) (v : Int32) : xpe (mput m0 s h) (m0 + 1 + 24) j (.int v) = mput m0 (su s 29 j v) h := mput_pe j v (by decide) rfl rfl
theorem mg_30 (m0 : Nat) (s : mS) (h : xH) : xg (mput m0 s h) m0 30 = .ref (m0 + 1 + 25) := mg 30
theorem mr_30 (m0 : Nat) (s : mS) (h : xH) : (mput m0 s h).2.2 (m0 + 1 + 25) = some (.inr (0, 400, fun j => .int (s 30 j))) := mrow (by decide) rfl
theorem mA_30 (m0 : Nat) (s : mS) (h : xH) : xA (mput m0 s h) (m0 + 1 + 25) 0 = true := by simp [xA, mr_30]
theorem ml_30 (m0 : Nat) (s : mS) (h : xH) : xl (mput m0 s h) (m0 + 1 + 25) = 400 := by simp [xl, mr_30]
theorem me_30 (m0 : Nat) (s : mS) (h : xH) (j : Nat) : xe (mput m0 s h) (m0 + 1 + 25) j = .int (s 30 j) := by simp [xe, mr_30]
theorem mp_30 (m0 : Nat) (s : mS) (h : xH) (j : Nat) (v : Int32) : xpe (mput m0 s h) (m0 + 1 + 25) j (.int v) = mput m0 (su s 30 j v) h := mput_pe j v (by decide) rfl rfl
theorem mg_31 (m0 : Nat) (s : mS) (h : xH) : xg (mput m0 s h) m0 31 = .ref (m0 + 1 + 26) := mg 31
theorem mr_31 (m0 : Nat) (s : mS) (h : xH) : (mput m0 s h).2.2 (m0 + 1 + 26) = some (.inr (0, 400, fun j => .int (s 31 j))) := mrow (by decide) rfl
theorem mA_31 (m0 : Nat) (s : mS) (h : xH) : xA (mput m0 s h) (m0 + 1 + 26) 0 = true := by simp [xA, mr_31]
theorem ml_31 (m0 : Nat) (s : mS) (h : xH) : xl (mput m0 s h) (m0 + 1 + 26) = 400 := by simp [xl, mr_31]
theorem me_31 (m0 : Nat) (s : mS) (h : xH) (j : Nat) : xe (mput m0 s h) (m0 + 1 + 26) j = .int (s 31 j) := by simp [xe, mr_31]
theorem mp_31 (m0 : Nat) (s : mS) (h : xH) (j : Nat) (v : Int32) : xpe (mput m0 s h) (m0 + 1 + 26) j (.int v) = mput m0 (su s 31 j v) h := mput_pe j v (by decide) rfl rfl
theorem mg_32 (m0 : Nat) (s : mS) (h : xH) : xg (mput m0 s h) m0 32 = .ref (m0 + 1 + 27) := mg 32
theorem mr_32 (m0 : Nat) (s : mS) (h : xH) : (mput m0 s h).2.2 (m0 + 1 + 27) = some (.inr (0, 400, fun j => .int (s 32 j))) := mrow (by decide) rfl
theorem mA_32 (m0 : Nat) (s : mS) (h : xH) : xA (mput m0 s h) (m0 + 1 + 27) 0 = true := by simp [xA, mr_32]
theorem ml_32 (m0 : Nat) (s : mS) (h : xH) : xl (mput m0 s h) (m0 + 1 + 27) = 400 := by simp [xl, mr_32]
theorem me_32 (m0 : Nat) (s : mS) (h : xH) (j : Nat) : xe (mput m0 s h) (m0 + 1 + 27) j = .int (s 32 j) := by simp [xe, mr_32]
theorem mp_32 (m0 : Nat) (s : mS) (h : xH) (j : Nat) (v : Int32) : xpe (mput m0 s h) (m0 + 1 + 27) j (.int v) = mput m0 (su s 32 j v) h := mput_pe j v (by decide) rfl rfl
theorem mg_33 (m0 : Nat) (s : mS) (h : xH) : xg (mput m0 s h) m0 33 = .ref (m0 + 1 + 28) := mg 33
theorem mr_33 (m0 : Nat) (s : mS) (h : xH) : (mput m0 s h).2.2 (m0 + 1 + 28) = some (.inr (0, 400, fun j => .int (s 33 j))) := mrow (by decide) rfl
theorem mA_33 (m0 : Nat) (s : mS) (h : xH) : xA (mput m0 s h) (m0 + 1 + 28) 0 = true := by simp [xA, mr_33]
theorem ml_33 (m0 : Nat) (s : mS) (h : xH) : xl (mput m0 s h) (m0 + 1 + 28) = 400 := by simp [xl, mr_33]
theorem me_33 (m0 : Nat) (s : mS) (h : xH) (j : Nat) : xe (mput m0 s h) (m0 + 1 + 28) j = .int (s 33 j) := by simp [xe, mr_33]
theorem mp_33 (m0 : Nat) (s : mS) (h : xH) (j : Nat) (v : Int32) : xpe (mput m0 s h) (m0 + 1 + 28) j (.int v) = mput m0 (su s 33 j v) h := mput_pe j v (by decide) rfl rfl
theorem mg_34 (m0 : Nat) (s : mS) (h : xH) : xg (mput m0 s h) m0 34 = .ref (m0 + 1 + 29) := mg 34
theorem mr_34 (m0 : Nat) (s : mS) (h : xH) : (mput m0 s h).2.2 (m0 + 1 + 29) = some (.inr (0, 9600, fun j => .int (s 34 j))) := mrow (by decide) rfl
theorem mA_34 (m0 : Nat) (s : mS) (h : xH) : xA (mput m0 s h) (m0 + 1 + 29) 0 = true := by simp [xA, mr_34]
theorem ml_34 (m0 : Nat) (s : mS) (h : xH) : xl (mput m0 s h) (m0 + 1 + 29) = 9600 := by simp [xl, mr_34]
theorem me_34 (m0 : Nat) (s : mS) (h : xH) (j : Nat) : xe (mput m0 s h) (m0 + 1 + 29) j = .int (s 34 j) := by simp [xe, mr_34]
theorem mp_34 (m0 : Nat) (s : mS) (h : xH) (j : Nat) (v : Int32) : xpe (mput m0 s h) (m0 + 1 + 29) j (.int v) = mput m0 (su s 34 j v) h := mput_pe j v (by decide) rfl rfl
theorem mg_35 (m0 : Nat) (s : mS) (h : xH) : xg (mput m0 s h) m0 35 = .ref (m0 + 1 + 30) := mg 35
theorem mr_35 (m0 : Nat) (s : mS) (h : xH) : (mput m0 s h).2.2 (m0 + 1 + 30) = some (.inr (0, 400, fun j => .int (s 35 j))) := mrow (by decide) rfl
theorem mA_35 (m0 : Nat) (s : mS) (h : xH) : xA (mput m0 s h) (m0 + 1 + 30) 0 = true := by simp [xA, mr_35]
theorem ml_35 (m0 : Nat) (s : mS) (h : xH) : xl (mput m0 s h) (m0 + 1 + 30) = 400 := by simp [xl, mr_35]
theorem me_35 (m0 : Nat) (s : mS) (h : xH) (j : Nat) : xe (mput m0 s h) (m0 + 1 + 30) j = .int (s 35 j) := by simp [xe, mr_35]
theorem mp_35 (m0 : Nat) (s : mS) (h : xH) (j : Nat) (v : Int32) : xpe (mput m0 s h) (m0 + 1 + 30) j (.int v) = mput m0 (su s 35 j v) h := mput_pe j v (by decide) rfl rfl
theorem mg_36 (m0 : Nat) (s : mS) (h : xH) : xg (mput m0 s h) m0 36 = .ref (m0 + 1 + 31) := mg 36
theorem mr_36 (m0 : Nat) (s : mS) (h : xH) : (mput m0 s h).2.2 (m0 + 1 + 31) = some (.inr (1, 400, fun j => .int (s 36 j))) := mrow (by decide) rfl
theorem mA_36 (m0 : Nat) (s : mS) (h : xH) : xA (mput m0 s h) (m0 + 1 + 31) 1 = true := by simp [xA, mr_36]
theorem ml_36 (m0 : Nat) (s : mS) (h : xH) : xl (mput m0 s h) (m0 + 1 + 31) = 400 := by simp [xl, mr_36]
theorem me_36 (m0 : Nat) (s : mS) (h : xH) (j : Nat) : xe (mput m0 s h) (m0 + 1 + 31) j = .int (s 36 j) := by simp [xe, mr_36]
theorem mp_36 (m0 : Nat) (s : mS) (h : xH) (j : Nat) (v : Int32) : xpe (mput m0 s h) (m0 + 1 + 31) j (.int v) = mput m0 (su s 36 j v) h := mput_pe j v (by decide) rfl rfl
theorem mg_37 (m0 : Nat) (s : mS) (h : xH) : xg (mput m0 s h) m0 37 = .int (s 37 0) := mg 37
theorem mp_37 (m0 : Nat) (s : mS) (h : xH) (v : Int32) : xpf (mput m0 s h) m0 37 (.int v) = mput m0 (su s 37 0 v) h := mput_pf v rfl
theorem mg_38 (m0 : Nat) (s : mS) (h : xH) : xg (mput m0 s h) m0 38 = .ref (m0 + 1 + 32) := mg 38
theorem mr_38 (m0 : Nat) (s : mS) (h : xH) : (mput m0 s h).2.2 (m0 + 1 + 32) = some (.inr (0, 12, fun j => .int (s 38 j))) := mrow (by decide) rfl
theorem mA_38 (m0 : Nat) (s : mS) (h : xH) : xA (mput m0 s h) (m0 + 1 + 32) 0 = true := by simp [xA, mr_38]
theorem ml_38 (m0 : Nat) (s : mS) (h : xH) : xl (mput m0 s h) (m0 + 1 + 32) = 12 := by simp [xl, mr_38]
theorem me_38 (m0 : Nat) (s : mS) (h : xH) (j : Nat) : xe (mput m0 s h) (m0 + 1 + 32) j = .int (s 38 j) := by simp [xe, mr_38]
theorem mp_38 (m0 : Nat) (s : mS) (h : xH) (j : Nat) (v : Int32) : xpe (mput m0 s h) (m0 + 1 + 32) j (.int v) = mput m0 (su s 38 j v) h := mput_pe j v (by decide) rfl rfl
theorem mg_39 (m0 : Nat) (s : mS) (h : xH) : xg (mput m0 s h) m0 39 = .ref (m0 + 1 + 33) := mg 39
theorem mr_39 (m0 : Nat) (s : mS) (h : xH) : (mput m0 s h).2.2 (m0 + 1 + 33) = some (.inr (0, 12, fun j => .int (s 39 j))) := mrow (by decide) rfl
theorem mA_39 (m0 : Nat) (s : mS) (h : xH) : xA (mput m0 s h) (m0 + 1 + 33) 0 = true := by simp [xA, mr_39]
theorem ml_39 (m0 : Nat) (s : mS) (h : xH) : xl (mput m0 s h) (m0 + 1 + 33) = 12 := by simp [xl, mr_39]
theorem me_39 (m0 : Nat) (s : mS) (h : xH) (j : Nat) : xe (mput m0 s h) (m0 + 1 + 33) j = .int (s 39 j) := by simp [xe, mr_39]
theorem mp_39 (m0 : Nat) (s : mS) (h : xH) (j : Nat) (v : Int32) : xpe (mput m0 s h) (m0 + 1 + 33) j (.int v) = mput m0 (su s 39 j v) h := mput_pe j v (by decide) rfl rfl
theorem mg_40 (m0 : Nat) (s : mS) (h : xH) : xg (mput m0 s h) m0 40 = .int (s 40 0) := mg 40
theorem mp_40 (m0 : Nat) (s : mS) (h : xH) (v : Int32) : xpf (mput m0 s h) m0 40 (.int v) = mput m0 (su s 40 0 v) h := mput_pf v rfl
theorem mg_41 (m0 : Nat) (s : mS) (h : xH) : xg (mput m0 s h) m0 41 = .int (s 41 0) := mg 41
theorem mp_41 (m0 : Nat) (s : mS) (h : xH) (v : Int32) : xpf (mput m0 s h) m0 41 (.int v) = mput m0 (su s 41 0 v) h := mput_pf v rfl
theorem mg_42 (m0 : Nat) (s : mS) (h : xH) : xg (mput m0 s h) m0 42 = .int (s 42 0) := mg 42
theorem mp_42 (m0 : Nat) (s : mS) (h : xH) (v : Int32) : xpf (mput m0 s h) m0 42 (.int v) = mput m0 (su s 42 0 v) h := mput_pf v rfl
theorem mg_43 (m0 : Nat) (s : mS) (h : xH) : xg (mput m0 s h) m0 43 = .int (s 43 0) := mg 43
theorem mp_43 (m0 : Nat) (s : mS) (h : xH) (v : Int32) : xpf (mput m0 s h) m0 43 (.int v) = mput m0 (su s 43 0 v) h := mput_pf v rfl
theorem mg_44 (m0 : Nat) (s : mS) (h : xH) : xg (mput m0 s h) m0 44 = .ref (m0 + 1 + 34) := mg 44
theorem mr_44 (m0 : Nat) (s : mS) (h : xH) : (mput m0 s h).2.2 (m0 + 1 + 34) = some (.inr (0, 300, fun j => .int (s 44 j))) := mrow (by decide) rfl
theorem mA_44 (m0 : Nat) (s : mS) (h : xH) : xA (mput m0 s h) (m0 + 1 + 34) 0 = true := by simp [xA, mr_44]
theorem ml_44 (m0 : Nat) (s : mS) (h : xH) : xl (mput m0 s h) (m0 + 1 + 34) = 300 := by simp [xl, mr_44]
theorem me_44 (m0 : Nat) (s : mS) (h : xH) (j : Nat) : xe (mput m0 s h) (m0 + 1 + 34) j = .int (s 44 j) := by simp [xe, mr_44]
theorem mp_44 (m0 : Nat) (s : mS) (h : xH) (j : Nat) (v : Int32) : xpe (mput m0 s h) (m0 + 1 + 34) j (.int v) = mput m0 (su s 44 j v) h := mput_pe j v (by decide) rfl rfl
theorem mg_45 (m0 : Nat) (s : mS) (h : xH) : xg (mput m0 s h) m0 45 = .ref (m0 + 1 + 35) := mg 45
theorem mr_45 (m0 : Nat) (s : mS) (h : xH) : (mput m0 s h).2.2 (m0 + 1 + 35) = some (.inr (0, 300, fun j => .int (s 45 j))) := mrow (by decide) rfl
theorem mA_45 (m0 : Nat) (s : mS) (h : xH) : xA (mput m0 s h) (m0 + 1 + 35) 0 = true := by simp [xA, mr_45]
theorem ml_45 (m0 : Nat) (s : mS) (h : xH) : xl (mput m0 s h) (m0 + 1 + 35) = 300 := by simp [xl, mr_45]
theorem me_45 (m0 : Nat) (s : mS) (h : xH) (j : Nat) : xe (mput m0 s h) (m0 + 1 + 35) j = .int (s 45 j) := by simp [xe, mr_45]
theorem mp_45 (m0 : Nat) (s : mS) (h : xH) (j : Nat) (v : Int32) : xpe (mput m0 s h) (m0 + 1 + 35) j (.int v) = mput m0 (su s 45 j v) h := mput_pe j v (by decide) rfl rfl
theorem mg_46 (m0 : Nat) (s : mS) (h : xH) : xg (mput m0 s h) m0 46 = .ref (m0 + 1 + 36) := mg 46
theorem mr_46 (m0 : Nat) (s : mS) (h : xH) : (mput m0 s h).2.2 (m0 + 1 + 36) = some (.inr (0, 300, fun j => .int (s 46 j))) := mrow (by decide) rfl
theorem mA_46 (m0 : Nat) (s : mS) (h : xH) : xA (mput m0 s h) (m0 + 1 + 36) 0 = true := by simp [xA, mr_46]
theorem ml_46 (m0 : Nat) (s : mS) (h : xH) : xl (mput m0 s h) (m0 + 1 + 36) = 300 := by simp [xl, mr_46]
theorem me_46 (m0 : Nat) (s : mS) (h : xH) (j : Nat) : xe (mput m0 s h) (m0 + 1 + 36) j = .int (s 46 j) := by simp [xe, mr_46]
theorem mp_46 (m0 : Nat) (s : mS) (h : xH) (j : Nat) (v : Int32) : xpe (mput m0 s h) (m0 + 1 + 36) j (.int v) = mput m0 (su s 46 j v) h := mput_pe j v (by decide) rfl rfl
theorem mg_47 (m0 : Nat) (s : mS) (h : xH) : xg (mput m0 s h) m0 47 = .int (s 47 0) := mg 47
theorem mp_47 (m0 : Nat) (s : mS) (h : xH) (v : Int32) : xpf (mput m0 s h) m0 47 (.int v) = mput m0 (su s 47 0 v) h := mput_pf v rfl
theorem mg_48 (m0 : Nat) (s : mS) (h : xH) : xg (mput m0 s h) m0 48 = .int (s 48 0) := mg 48
theorem mp_48 (m0 : Nat) (s : mS) (h : xH) (v : Int32) : xpf (mput m0 s h) m0 48 (.int v) = mput m0 (su s 48 0 v) h := mput_pf v rfl
theorem mg_49 (m0 : Nat) (s : mS) (h : xH) : xg (mput m0 s h) m0 49 = .int (s 49 0) := mg 49
theorem mp_49 (m0 : Nat) (s : mS) (h : xH) (v : Int32) : xpf (mput m0 s h) m0 49 (.int v) = mput m0 (su s 49 0 v) h := mput_pf v rfl
theorem mg_50 (m0 : Nat) (s : mS) (h : xH) : xg (mput m0 s h) m0 50 = .ref (m0 + 1 + 37) := mg 50
theorem mr_50 (m0 : Nat) (s : mS) (h : xH) : (mput m0 s h).2.2 (m0 + 1 + 37) = some (.inr (0, 400, fun j => .int (s 50 j))) := mrow (by decide) rfl
theorem mA_50 (m0 : Nat) (s : mS) (h : xH) : xA (mput m0 s h) (m0 + 1 + 37) 0 = true := by simp [xA, mr_50]
theorem ml_50 (m0 : Nat) (s : mS) (h : xH) : xl (mput m0 s h) (m0 + 1 + 37) = 400 := by simp [xl, mr_50]
theorem me_50 (m0 : Nat) (s : mS) (h : xH) (j : Nat) : xe (mput m0 s h) (m0 + 1 + 37) j = .int (s 50 j) := by simp [xe, mr_50]
theorem mp_50 (m0 : Nat) (s : mS) (h : xH) (j : Nat) (v : Int32) : xpe (mput m0 s h) (m0 + 1 + 37) j (.int v) = mput m0 (su s 50 j v) h := mput_pe j v (by decide) rfl rfl
theorem mg_51 (m0 : Nat) (s : mS) (h : xH) : xg (mput m0 s h) m0 51 = .ref (m0 + 1 + 38) := mg 51
theorem mr_51 (m0 : Nat) (s : mS) (h : xH) : (mput m0 s h).2.2 (m0 + 1 + 38) = some (.inr (0, 60, fun j => .int (s 51 j))) := mrow (by decide) rfl
theorem mA_51 (m0 : Nat) (s : mS) (h : xH) : xA (mput m0 s h) (m0 + 1 + 38) 0 = true := by simp [xA, mr_51]
theorem ml_51 (m0 : Nat) (s : mS) (h : xH) : xl (mput m0 s h) (m0 + 1 + 38) = 60 := by simp [xl, mr_51]
theorem me_51 (m0 : Nat) (s : mS) (h : xH) (j : Nat) : xe (mput m0 s h) (m0 + 1 + 38) j = .int (s 51 j) := by simp [xe, mr_51]
theorem mp_51 (m0 : Nat) (s : mS) (h : xH) (j : Nat) (v : Int32) : xpe (mput m0 s h) (m0 + 1 + 38) j (.int v) = mput m0 (su s 51 j v) h := mput_pe j v (by decide) rfl rfl
theorem mg_52 (m0 : Nat) (s : mS) (h : xH) : xg (mput m0 s h) m0 52 = .int (s 52 0) := mg 52
theorem mp_52 (m0 : Nat) (s : mS) (h : xH) (v : Int32) : xpf (mput m0 s h) m0 52 (.int v) = mput m0 (su s 52 0 v) h := mput_pf v rfl
theorem mg_53 (m0 : Nat) (s : mS) (h : xH) : xg (mput m0 s h) m0 53 = .int (s 53 0) := mg 53
theorem mp_53 (m0 : Nat) (s : mS) (h : xH) (v : Int32) : xpf (mput m0 s h) m0 53 (.int v) = mput m0 (su s 53 0 v) h := mput_pf v rfl
theorem mg_54 (m0 : Nat) (s : mS) (h : xH) : xg (mput m0 s h) m0 54 = .ref (m0 + 1 + 39) := mg 54
theorem mr_54 (m0 : Nat) (s : mS) (h : xH) : (mput m0 s h).2.2 (m0 + 1 + 39) = some (.inr (0, 600, fun j => .int (s 54 j))) := mrow (by decide) rfl
theorem mA_54 (m0 : Nat) (s : mS) (h : xH) : xA (mput m0 s h) (m0 + 1 + 39) 0 = true := by simp [xA, mr_54]
theorem ml_54 (m0 : Nat) (s : mS) (h : xH) : xl (mput m0 s h) (m0 + 1 + 39) = 600 := by simp [xl, mr_54]
theorem me_54 (m0 : Nat) (s : mS) (h : xH) (j : Nat) : xe (mput m0 s h) (m0 + 1 + 39) j = .int (s 54 j) := by simp [xe, mr_54]
theorem mp_54 (m0 : Nat) (s : mS) (h : xH) (j : Nat) (v : Int32) : xpe (mput m0 s h) (m0 + 1 + 39) j (.int v) = mput m0 (su s 54 j v) h := mput_pe j v (by decide) rfl rfl
theorem mg_55 (m0 : Nat) (s : mS) (h : xH) : xg (mput m0 s h) m0 55 = .ref (m0 + 1 + 40) := mg 55
theorem mr_55 (m0 : Nat) (s : mS) (h : xH) : (mput m0 s h).2.2 (m0 + 1 + 40) = some (.inr (0, 3200, fun j => .int (s 55 j))) := mrow (by decide) rfl
theorem mA_55 (m0 : Nat) (s : mS) (h : xH) : xA (mput m0 s h) (m0 + 1 + 40) 0 = true := by simp [xA, mr_55]
theorem ml_55 (m0 : Nat) (s : mS) (h : xH) : xl (mput m0 s h) (m0 + 1 + 40) = 3200 := by simp [xl, mr_55]
theorem me_55 (m0 : Nat) (s : mS) (h : xH) (j : Nat) : xe (mput m0 s h) (m0 + 1 + 40) j = .int (s 55 j) := by simp [xe, mr_55]
theorem mp_55 (m0 : Nat) (s : mS) (h : xH) (j : Nat) (v : Int32) : xpe (mput m0 s h) (m0 + 1 + 40) j (.int v) = mput m0 (su s 55 j v) h := mput_pe j v (by decide) rfl rfl
