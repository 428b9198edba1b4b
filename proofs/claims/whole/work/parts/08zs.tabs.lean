/-! ===== the tables' words at the start ===== -/
theorem xT_tbl {w : Cond} (h : w ∈ xT) : w ∈ lw_tbl := (List.mem_filter.mp h).1
theorem xinst : ∀ c, c < 12 → Cond.instantiable (xown c) (xNf c) ∈ lw_tbl := by decide +kernel
theorem xcastO : ∀ c, c < 12 → Cond.castable (xown c) "java/lang/Object" ∈ lw_tbl := by decide +kernel
theorem xcastE : ∀ c, c < 3 → Cond.castable (xEn c) (xEn c) ∈ lw_tbl := by decide +kernel
theorem xthv_0 : ∀ w ∈ xthw (0, 0, 0, 84, 0, 88, false), w ∈ lw_tbl := by decide +kernel
theorem xthv_1 : ∀ w ∈ xthw (0, 0, 1, 124, 0, 128, false), w ∈ lw_tbl := by decide +kernel
theorem xthv_2 : ∀ w ∈ xthw (0, 0, 2, 97, 0, 101, false), w ∈ lw_tbl := by decide +kernel
theorem xth_3 : xthT.all (fun q => decide ((q.2.2.1 = 0 ∧ q.2.2.2.1 = 84 ∧ q.2.2.2.2.2.1 = 88) ∨ (q.2.2.1 = 1 ∧ q.2.2.2.1 = 124 ∧ q.2.2.2.2.2.1 = 128) ∨ (q.2.2.1 = 2 ∧ q.2.2.2.1 = 97 ∧ q.2.2.2.2.2.1 = 101))) = true := by decide +kernel
theorem xth_tbl : ∀ q ∈ xthT, ∀ w ∈ xthw q, w ∈ lw_tbl := by
  intro q hq w hw
  have h := of_decide_eq_true (List.all_eq_true.mp xth_3 q hq)
  obtain ⟨M, pc, E, ik, is, ic, wd⟩ := q
  simp only at h
  rcases h with ⟨rfl, rfl, rfl⟩ | ⟨rfl, rfl, rfl⟩ | ⟨rfl, rfl, rfl⟩
  · exact xthv_0 w hw
  · exact xthv_1 w hw
  · exact xthv_2 w hw
theorem xth_str : ∀ q ∈ xthT, ∃ tx : String, Cond.stringRef "PilotStation" q.2.2.2.2.1 tx ∈ lw_tbl := by
  have h : xthT.all (fun q => lw_tbl.any (fun w => match w with | .stringRef o k _ => decide (o = "PilotStation" ∧ k = q.2.2.2.2.1) | _ => false)) = true := by decide +kernel
  intro q hq
  obtain ⟨w, hw, hp⟩ := List.any_eq_true.mp (List.all_eq_true.mp h q hq)
  cases w <;> simp at hp
  rename_i o k tx
  obtain ⟨rfl, rfl⟩ := hp
  exact ⟨tx, hw⟩
theorem xncast : ∀ a, a < 3 → ∀ b, b < 3 → a ≠ b → Cond.not (.castable (xEn a) (xEn b)) ∈ flatC (Jvm.Cond.and given_1 narrow_1) := by decide +kernel
