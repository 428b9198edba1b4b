/-! ===== writes and what they leave ===== -/
section FR
variable {h : xH} {a e j k c t : Nat} {v : Value}
theorem xpe_cell : (xpe h e j v).2.2 a = if a = e then (match h.2.2 e with | some (.inr q) => some (.inr (q.1, q.2.1, updV q.2.2 j v)) | r => r) else h.2.2 a := by
  unfold xpe
  by_cases x : a = e
  · subst x
    rw [if_pos rfl]
    cases y : h.2.2 a with
    | none => simp [y]
    | some r => cases r <;> simp [y, xpc]
  · rw [if_neg x]
    cases y : h.2.2 e with
    | none => rfl
    | some r => cases r <;> simp [x, xpc]
theorem xO_xpe : xO (xpe h e j v) a c = xO h a c := by
  unfold xO
  rw [xpe_cell]
  by_cases x : a = e
  · subst x
    rw [if_pos rfl]
    cases y : h.2.2 a with
    | none => rfl
    | some r => cases r <;> rfl
  · rw [if_neg x]
theorem xg_xpe : xg (xpe h e j v) a k = xg h a k := by
  unfold xg
  rw [xpe_cell]
  by_cases x : a = e
  · subst x
    rw [if_pos rfl]
    cases y : h.2.2 a with
    | none => rfl
    | some r => cases r <;> rfl
  · rw [if_neg x]
theorem xA_xpe : xA (xpe h e j v) a t = xA h a t := by
  unfold xA
  rw [xpe_cell]
  by_cases x : a = e
  · subst x
    rw [if_pos rfl]
    cases y : h.2.2 a with
    | none => rfl
    | some r => cases r <;> rfl
  · rw [if_neg x]
theorem xl_xpe : xl (xpe h e j v) a = xl h a := by
  unfold xl
  rw [xpe_cell]
  by_cases x : a = e
  · subst x
    rw [if_pos rfl]
    cases y : h.2.2 a with
    | none => rfl
    | some r => cases r <;> rfl
  · rw [if_neg x]
theorem xe_xpe_ne {i : Nat} (hne : a ≠ e) : xe (xpe h e j v) a i = xe h a i := by
  unfold xe
  rw [xpe_cell, if_neg hne]
theorem xe_xpe {i : Nat} (hA : xA h e t = true) : xe (xpe h e j v) e i = if i = j then v else xe h e i := by
  unfold xe
  rw [xpe_cell, if_pos rfl]
  unfold xA at hA
  cases y : h.2.2 e with
  | none => simp [y] at hA
  | some r =>
    cases r with
    | inl r => simp [y] at hA
    | inr r => simp [updV]
theorem xpf_cell : (xpf h e j v).2.2 a = if a = e then (match h.2.2 e with | some (.inl q) => some (.inl (q.1, updV q.2 j v)) | r => r) else h.2.2 a := by
  unfold xpf
  by_cases x : a = e
  · subst x
    rw [if_pos rfl]
    cases y : h.2.2 a with
    | none => simp [y]
    | some r => cases r <;> simp [y, xpc]
  · rw [if_neg x]
    cases y : h.2.2 e with
    | none => rfl
    | some r => cases r <;> simp [x, xpc]
theorem xO_xpf : xO (xpf h e j v) a c = xO h a c := by
  unfold xO
  rw [xpf_cell]
  by_cases x : a = e
  · subst x
    rw [if_pos rfl]
    cases y : h.2.2 a with
    | none => rfl
    | some r => cases r <;> rfl
  · rw [if_neg x]
theorem xA_xpf : xA (xpf h e j v) a t = xA h a t := by
  unfold xA
  rw [xpf_cell]
  by_cases x : a = e
  · subst x
    rw [if_pos rfl]
    cases y : h.2.2 a with
    | none => rfl
    | some r => cases r <;> rfl
  · rw [if_neg x]
theorem xl_xpf : xl (xpf h e j v) a = xl h a := by
  unfold xl
  rw [xpf_cell]
  by_cases x : a = e
  · subst x
    rw [if_pos rfl]
    cases y : h.2.2 a with
    | none => rfl
    | some r => cases r <;> rfl
  · rw [if_neg x]
theorem xe_xpf {i : Nat} : xe (xpf h e j v) a i = xe h a i := by
  unfold xe
  rw [xpf_cell]
  by_cases x : a = e
  · subst x
    rw [if_pos rfl]
    cases y : h.2.2 a with
    | none => rfl
    | some r => cases r <;> rfl
  · rw [if_neg x]
theorem xg_xpf_ne {i : Nat} (hne : a ≠ e) : xg (xpf h e j v) a i = xg h a i := by
  unfold xg
  rw [xpf_cell, if_neg hne]
theorem xg_xpf {i : Nat} (hO : xO h e c = true) : xg (xpf h e j v) e i = if i = j then v else xg h e i := by
  unfold xg
  rw [xpf_cell, if_pos rfl]
  unfold xO at hO
  cases y : h.2.2 e with
  | none => simp [y] at hO
  | some r =>
    cases r with
    | inr r => simp [y] at hO
    | inl r => simp [updV]
theorem xpf_1 : (xpf h e j v).1 = h.1 := by
  unfold xpf
  split <;> rfl
theorem xpe_1 : (xpe h e j v).1 = h.1 := by
  unfold xpe
  split <;> rfl
theorem xpf_2 : (xpf h e j v).2.1 = h.2.1 := by
  unfold xpf
  split <;> rfl
theorem xpe_2 : (xpe h e j v).2.1 = h.2.1 := by
  unfold xpe
  split <;> rfl
end FR
