/-! ===== each case with its calls ===== -/
section DS
variable {g : Nat × Nat × Nat} {b N n i : Nat} {xs : Nat → Int32} {s : mS} {H : xH} {a5 a6 : Option Value}
theorem rg_pilot {kk l d : Int32} : e_pilot s kk l d = 0 ∨ e_pilot s kk l d = 1 ∨ e_pilot s kk l d = 2 := by
  unfold e_pilot
  (repeat' split) <;> decide
theorem th_pilot {kk l d : Int32} : f_pilot s kk l d 0 0 = e_pilot s kk l d := by
  unfold f_pilot
  by_cases e : e_pilot s kk l d = 0
  · rw [if_pos e]
    rw [e]
    simp only [su_get, Nat.reduceEqDiff, false_and, if_false, and_self, if_true]
  · rw [if_neg e]
    simp only [su_get, and_self, if_true]
theorem rg_ship {l d t w : Int32} : e_ship s l d t w = 0 ∨ e_ship s l d t w = 1 ∨ e_ship s l d t w = 2 ∨ e_ship s l d t w = 3 := by
  unfold e_ship
  (repeat' split) <;> decide
theorem th_ship {i l d t w q : Int32} : f_ship s i l d t w q 0 0 = e_ship s l d t w := by
  unfold f_ship
  by_cases e : e_ship s l d t w = 0
  · rw [if_pos e]
    rw [e]
    simp only [su_get, Nat.reduceEqDiff, false_and, if_false, and_self, if_true]
  · rw [if_neg e]
    simp only [su_get, and_self, if_true]
theorem rg_tide {d t : Int32} : e_tide s d t = 0 ∨ e_tide s d t = 1 ∨ e_tide s d t = 2 ∨ e_tide s d t = 3 := by
  unfold e_tide
  (repeat' split) <;> decide
theorem th_tide {d t : Int32} : f_tide s d t 0 0 = e_tide s d t := by
  unfold f_tide
  by_cases e : e_tide s d t = 0
  · rw [if_pos e]
    rw [e]
    simp only [su_get, Nat.reduceEqDiff, false_and, if_false, and_self, if_true]
  · rw [if_neg e]
    simp only [su_get, and_self, if_true]
theorem rg_tear {d : Int32} : e_tear d = 0 ∨ e_tear d = 1 := by
  unfold e_tear
  (repeat' split) <;> decide
theorem th_tear {d : Int32} : f_tear s d 0 0 = e_tear d := by
  unfold f_tear e_tear
  split <;> simp only [su_get, Nat.reduceEqDiff, false_and, if_false, and_self, if_true]
theorem rg_boat {c m : Int32} : e_boat s c m = 0 ∨ e_boat s c m = 1 ∨ e_boat s c m = 2 := by
  unfold e_boat
  (repeat' split) <;> decide
theorem th_boat {c m : Int32} : f_boat s c m 0 0 = e_boat s c m := by
  unfold f_boat
  by_cases e : e_boat s c m = 0
  · rw [if_pos e]
    rw [e]
    simp only [su_get, Nat.reduceEqDiff, false_and, if_false, and_self, if_true]
  · rw [if_neg e]
    simp only [su_get, and_self, if_true]
theorem rg_off {p d : Int32} : e_off s p d = 0 ∨ e_off s p d = 1 := by
  unfold e_off
  (repeat' split) <;> decide
theorem th_off {p d v : Int32} : f_off s p d v 0 0 = e_off s p d := by
  unfold f_off
  by_cases e : e_off s p d = 0
  · rw [if_pos e]
    rw [e]
    simp only [su_get, Nat.reduceEqDiff, false_and, if_false, and_self, if_true]
  · rw [if_neg e]
    simp only [su_get, and_self, if_true]
    rcases rg_off (s := s) (p := p) (d := d) with q | q
    · exact absurd q e
    · exact q.symm
theorem rg_will {p : Int32} : e_will s p = 0 ∨ e_will s p = 1 := by
  unfold e_will
  (repeat' split) <;> decide
theorem th_will {p v : Int32} : f_will s p v 0 0 = e_will s p := by
  unfold f_will
  by_cases e : e_will s p = 0
  · rw [if_pos e]
    rw [e]
    simp only [su_get, Nat.reduceEqDiff, false_and, if_false, and_self, if_true]
  · rw [if_neg e]
    simp only [su_get, and_self, if_true]
    rcases rg_will (s := s) (p := p) with q | q
    · exact absurd q e
    · exact q.symm
theorem rg_may {p x : Int32} : e_may s p x = 0 ∨ e_may s p x = 1 := by
  unfold e_may
  (repeat' split) <;> decide
theorem rg_window {x : Int32} : e_shp s x = 0 ∨ e_shp s x = 1 := by
  unfold e_shp
  (repeat' split) <;> decide
theorem rg_look {p w : Int32} : e_look s p w = 0 ∨ e_look s p w = 1 ∨ e_look s p w = 2 := by
  unfold e_look
  (repeat' split) <;> decide
theorem rg_craft {x w : Int32} : e_craft s x w = 0 ∨ e_craft s x w = 1 ∨ e_craft s x w = 2 := by
  unfold e_craft
  (repeat' split) <;> decide
theorem D_pilot (hi : i + 7 ≤ N) (hN : N ≤ 3584) (hn : n ≤ 1050) (h : LI g b N xs n s s H) : NX g b N xs n i 144 H a5 a6 := by
  have fO := (LI_facts h).1
  obtain ⟨⟨H1, k, hL⟩, m⟩ := B_pilot (k := (xs (i + 1))) (l := (xs (i + 2))) (d := (xs (i + 3))) (Nat.le_trans hn (by decide)) h
  rcases rg_pilot (s := s) (kk := (xs (i + 1))) (l := (xs (i + 2))) (d := (xs (i + 3))) with e | e | e
  · rw [e, if_pos rfl] at k
    exact C_pilot hi hN h (w0_pilot fO hL k) (LI_out hL _).1 (fun _ => (LI_out hL _).2) m (th_pilot.trans e)
  · rw [e, if_neg (by decide), if_pos rfl] at k
    exact C_pilot hi hN h (w1_pilot fO k) hL (fun q => absurd q (by decide)) m (th_pilot.trans e)
  · rw [e, if_neg (by decide), if_neg (by decide)] at k
    exact C_pilot hi hN h (w2_pilot fO k) hL (fun q => absurd q (by decide)) m (th_pilot.trans e)
theorem D_ship (hi : i + 7 ≤ N) (hN : N ≤ 3584) (hn : n ≤ 1050) (h : LI g b N xs n s s H) : NX g b N xs n i 224 H a5 a6 := by
  have fO := (LI_facts h).1
  obtain ⟨⟨H1, k, hL⟩, m⟩ := B_ship (i := (ib (xs (i + 1)))) (l := (xs (i + 2))) (d := (xs (i + 3))) (t := (xs (i + 4))) (w := (xs (i + 5))) (q := (ib (xs (i + 6)))) (ib_01 _) (ib_01 _) (Nat.le_trans hn (by decide)) h
  rcases rg_ship (s := s) (l := (xs (i + 2))) (d := (xs (i + 3))) (t := (xs (i + 4))) (w := (xs (i + 5))) with e | e | e | e
  · rw [e, if_pos rfl] at k
    exact C_ship hi hN h (w0_ship fO hL k) (LI_out hL _).1 (fun _ => (LI_out hL _).2) m (th_ship.trans e)
  · rw [e, if_neg (by decide), if_pos rfl] at k
    exact C_ship hi hN h (w1_ship fO k) hL (fun q => absurd q (by decide)) m (th_ship.trans e)
  · rw [e, if_neg (by decide), if_neg (by decide), if_pos rfl] at k
    exact C_ship hi hN h (w2_ship fO k) hL (fun q => absurd q (by decide)) m (th_ship.trans e)
  · rw [e, if_neg (by decide), if_neg (by decide), if_neg (by decide)] at k
    exact C_ship hi hN h (w3_ship fO k) hL (fun q => absurd q (by decide)) m (th_ship.trans e)
theorem D_tide (hi : i + 7 ≤ N) (hN : N ≤ 3584) (hn : n ≤ 1050) (h : LI g b N xs n s s H) : NX g b N xs n i 374 H a5 a6 := by
  have fO := (LI_facts h).1
  obtain ⟨⟨H1, k, hL⟩, m⟩ := B_tide (d := (xs (i + 1))) (t := (xs (i + 2))) (Nat.le_trans hn (by decide)) h
  rcases rg_tide (s := s) (d := (xs (i + 1))) (t := (xs (i + 2))) with e | e | e | e
  · rw [e, if_pos rfl] at k
    exact C_tide hi hN h (w0_tide fO hL k) (LI_out hL _).1 (fun _ => (LI_out hL _).2) m (th_tide.trans e)
  · rw [e, if_neg (by decide), if_pos rfl] at k
    exact C_tide hi hN h (w1_tide fO k) hL (fun q => absurd q (by decide)) m (th_tide.trans e)
  · rw [e, if_neg (by decide), if_neg (by decide), if_pos rfl] at k
    exact C_tide hi hN h (w2_tide fO k) hL (fun q => absurd q (by decide)) m (th_tide.trans e)
  · rw [e, if_neg (by decide), if_neg (by decide), if_neg (by decide)] at k
    exact C_tide hi hN h (w3_tide fO k) hL (fun q => absurd q (by decide)) m (th_tide.trans e)
theorem D_tear (hi : i + 7 ≤ N) (hN : N ≤ 3584) (hn : n ≤ 1050) (h : LI g b N xs n s s H) : NX g b N xs n i 442 H a5 a6 := by
  have fO := (LI_facts h).1
  obtain ⟨⟨H1, k, hL⟩, m⟩ := B_tear (d := (xs (i + 1))) (Nat.le_trans hn (by decide)) h
  rcases rg_tear (d := (xs (i + 1))) with e | e
  · rw [e, if_pos rfl] at k
    exact C_tear hi hN h (w0_tear fO hL k) (LI_out hL _).1 (fun _ => (LI_out hL _).2) m (th_tear.trans e)
  · rw [e, if_neg (by decide)] at k
    exact C_tear hi hN h (w1_tear fO k) hL (fun q => absurd q (by decide)) m (th_tear.trans e)
theorem D_boat (hi : i + 7 ≤ N) (hN : N ≤ 3584) (hn : n ≤ 1050) (h : LI g b N xs n s s H) : NX g b N xs n i 505 H a5 a6 := by
  have fO := (LI_facts h).1
  obtain ⟨⟨H1, k, hL⟩, m⟩ := B_boat (c := (xs (i + 1))) (m := (xs (i + 2))) (Nat.le_trans hn (by decide)) h
  rcases rg_boat (s := s) (c := (xs (i + 1))) (m := (xs (i + 2))) with e | e | e
  · rw [e, if_pos rfl] at k
    exact C_boat hi hN h (w0_boat fO hL k) (LI_out hL _).1 (fun _ => (LI_out hL _).2) m (th_boat.trans e)
  · rw [e, if_neg (by decide), if_pos rfl] at k
    exact C_boat hi hN h (w1_boat fO k) hL (fun q => absurd q (by decide)) m (th_boat.trans e)
  · rw [e, if_neg (by decide), if_neg (by decide)] at k
    exact C_boat hi hN h (w2_boat fO k) hL (fun q => absurd q (by decide)) m (th_boat.trans e)
theorem D_road (hi : i + 7 ≤ N) (hN : N ≤ 3584) (hn : n ≤ 1050) (h : LI g b N xs n s s H) : NX g b N xs n i 573 H a5 a6 := by
  have fO := (LI_facts h).1
  obtain ⟨⟨H1, k, hL⟩, m⟩ := B_road (m := (xs (i + 1))) (Nat.le_trans hn (by decide)) h
  by_cases e : 0 ≤ (xs (i + 1)) ∧ (xs (i + 1)) ≤ 5
  · rw [if_pos e] at k
    exact C_road hi hN h (w0_road fO hL k) hL m (by unfold f_road; rw [if_pos e]; simp only [su_get, Nat.reduceEqDiff, false_and, if_false, and_self, if_true])
  · rw [if_neg e] at k
    exact C_road hi hN h (w1_road fO k) hL m (by unfold f_road; rw [if_neg e]; simp only [su_get, Nat.reduceEqDiff, false_and, if_false, and_self, if_true])
theorem D_rest (hi : i + 7 ≤ N) (hN : N ≤ 3584) (hn : n ≤ 1050) (h : LI g b N xs n s s H) : NX g b N xs n i 609 H a5 a6 := by
  have fO := (LI_facts h).1
  obtain ⟨⟨H1, k, hL⟩, m⟩ := B_rest (x := (xs (i + 1))) (y := (xs (i + 2))) (m := (xs (i + 3))) (Nat.le_trans hn (by decide)) h
  by_cases e : (0 ≤ (xs (i + 1)) ∧ (xs (i + 1)) ≤ 48) ∧ (0 ≤ (xs (i + 2)) ∧ (xs (i + 2)) ≤ 48) ∧ (0 ≤ (xs (i + 3)) ∧ (xs (i + 3)) ≤ 48)
  · rw [if_pos e] at k
    exact C_rest hi hN h (w0_rest fO hL k) hL m (by unfold f_rest; rw [if_pos e]; simp only [su_get, Nat.reduceEqDiff, false_and, if_false, and_self, if_true])
  · rw [if_neg e] at k
    exact C_rest hi hN h (w1_rest fO k) hL m (by unfold f_rest; rw [if_neg e]; simp only [su_get, Nat.reduceEqDiff, false_and, if_false, and_self, if_true])
theorem D_off (hi : i + 7 ≤ N) (hN : N ≤ 3584) (hn : n ≤ 1050) (h : LI g b N xs n s s H) : NX g b N xs n i 669 H a5 a6 := by
  have fO := (LI_facts h).1
  obtain ⟨⟨H1, k, hL⟩, m⟩ := B_off (p := (xs (i + 1))) (d := (xs (i + 2))) (v := (ib (xs (i + 3)))) (ib_01 _) (Nat.le_trans hn (by decide)) h
  rcases rg_off (s := s) (p := (xs (i + 1))) (d := (xs (i + 2))) with e | e
  · rw [e, if_pos rfl] at k
    exact C_off hi hN h (w0_off fO hL k) (LI_out hL _).1 (fun _ => (LI_out hL _).2) m (th_off.trans e)
  · rw [e, if_neg (by decide)] at k
    exact C_off hi hN h (w1_off fO k) hL (fun q => absurd q (by decide)) m (th_off.trans e)
theorem D_will (hi : i + 7 ≤ N) (hN : N ≤ 3584) (hn : n ≤ 1050) (h : LI g b N xs n s s H) : NX g b N xs n i 772 H a5 a6 := by
  have fO := (LI_facts h).1
  obtain ⟨⟨H1, k, hL⟩, m⟩ := B_will (p := (xs (i + 1))) (v := (ib (xs (i + 2)))) (ib_01 _) (Nat.le_trans hn (by decide)) h
  rcases rg_will (s := s) (p := (xs (i + 1))) with e | e
  · rw [e, if_pos rfl] at k
    exact C_will hi hN h (w0_will fO hL k) (LI_out hL _).1 (fun _ => (LI_out hL _).2) m (th_will.trans e)
  · rw [e, if_neg (by decide)] at k
    exact C_will hi hN h (w1_will fO k) hL (fun q => absurd q (by decide)) m (th_will.trans e)
theorem D_hour (hi : i + 7 ≤ N) (hN : N ≤ 3584) (hn : n ≤ 1050) (h : LI g b N xs n s s H) : NX g b N xs n i 863 H a5 a6 := by
  obtain ⟨r, s1, ⟨H1, k, hL⟩, m⟩ := B_hour h
  exact C_hour hi hN h k hL m
theorem D_back (hi : i + 7 ≤ N) (hN : N ≤ 3584) (hn : n ≤ 1050) (h : LI g b N xs n s s H) : NX g b N xs n i 876 H a5 a6 := by
  have fO := (LI_facts h).1
  obtain ⟨e, r, s1, he, ht, ⟨H1, k, hL⟩, m⟩ := B_back (x := (xs (i + 1))) (Nat.le_trans hn (by decide)) h
  rcases he with rfl | rfl
  · rw [if_pos rfl] at k
    exact C_back hi hN h (w0_back fO hL k) (LI_out hL _).1 (fun _ => (LI_out hL _).2) m ht
  · rw [if_neg (by decide)] at k
    exact C_back hi hN h (w1_back fO k) hL (fun q => absurd q (by decide)) m ht
theorem D_swap (hi : i + 7 ≤ N) (hN : N ≤ 3584) (hn : n ≤ 1050) (h : LI g b N xs n s s H) : NX g b N xs n i 939 H a5 a6 := by
  have fO := (LI_facts h).1
  obtain ⟨⟨H1, k, hL⟩, m⟩ := B_swap (x := (xs (i + 1))) (y := (xs (i + 2))) (Nat.le_trans hn (by decide)) h
  by_cases e : v_swap s (xs (i + 1)) (xs (i + 2))
  · rw [if_pos e] at k
    exact C_swap hi hN h (w0_swap fO hL k) (LI_out hL _).1 (fun _ => (LI_out hL _).2) m (by unfold f_swap; rw [if_pos e]; split <;> simp only [w_swap, su_get, Nat.reduceEqDiff, false_and, if_false, and_self, if_true])
  · rw [if_neg e] at k
    exact C_swap hi hN h (w1_swap fO k) hL (fun q => absurd q (by decide)) m (by unfold f_swap; rw [if_neg e]; simp only [su_get, and_self, if_true])
theorem D_undo (hi : i + 7 ≤ N) (hN : N ≤ 3584) (hn : n ≤ 1050) (h : LI g b N xs n s s H) : NX g b N xs n i 1014 H a5 a6 := by
  obtain ⟨r, s1, ⟨H1, k, hL⟩, m⟩ := B_undo h
  exact C_undo hi hN h k hL m
theorem D_may (hi : i + 7 ≤ N) (hN : N ≤ 3584) (hn : n ≤ 1050) (h : LI g b N xs n s s H) : NX g b N xs n i 1027 H a5 a6 := by
  have fO := (LI_facts h).1
  obtain ⟨⟨H1, k, hL⟩, m⟩ := B_may (p := (xs (i + 1))) (x := (xs (i + 2))) (Nat.le_trans hn (by decide)) h
  rcases rg_may (s := s) (p := (xs (i + 1))) (x := (xs (i + 2))) with e | e
  · rw [e, if_pos rfl] at k
    exact C_may hi hN h (w0_may fO hL k) (LI_out hL _).1 (fun _ => (LI_out hL _).2) m ((by simp only [su_get, and_self, if_true]; exact e))
  · rw [e, if_neg (by decide)] at k
    exact C_may hi hN h (w1_may fO k) hL (fun q => absurd q (by decide)) m ((by simp only [su_get, and_self, if_true]; exact e))
theorem D_window (hi : i + 7 ≤ N) (hN : N ≤ 3584) (hn : n ≤ 1050) (h : LI g b N xs n s s H) : NX g b N xs n i 1102 H a5 a6 := by
  have fO := (LI_facts h).1
  obtain ⟨⟨H1, k, hL⟩, m⟩ := B_window (x := (xs (i + 1))) (t := (xs (i + 2))) (Nat.le_trans hn (by decide)) h
  rcases rg_window (s := s) (x := (xs (i + 1))) with e | e
  · rw [e, if_pos rfl] at k
    exact C_window hi hN h (w0_window fO hL k) (LI_out hL _).1 (fun _ => (LI_out hL _).2) m ((by simp only [su_get, and_self, if_true]; exact e))
  · rw [e, if_neg (by decide)] at k
    exact C_window hi hN h (w1_window fO k) hL (fun q => absurd q (by decide)) m ((by simp only [su_get, and_self, if_true]; exact e))
theorem D_seats (hi : i + 7 ≤ N) (hN : N ≤ 3584) (hn : n ≤ 1050) (h : LI g b N xs n s s H) : NX g b N xs n i 1177 H a5 a6 := by
  obtain ⟨r, ⟨H1, k, hL⟩, m⟩ := B_seats (t := (xs (i + 1))) (v := (ib (xs (i + 2)))) h
  exact C_seats hi hN h k hL m
theorem D_list (hi : i + 7 ≤ N) (hN : N ≤ 3584) (hn : n ≤ 1050) (h : LI g b N xs n s s H) : NX g b N xs n i 1230 H a5 a6 := by
  obtain ⟨r, ⟨H1, k, hL⟩, m⟩ := B_list (k1 := (xs (i + 1))) h
  exact C_list hi hN h k hL m
theorem D_asked (hi : i + 7 ≤ N) (hN : N ≤ 3584) (hn : n ≤ 1050) (h : LI g b N xs n s s H) : NX g b N xs n i 1255 H a5 a6 := by
  obtain ⟨r, ⟨H1, k, hL⟩, m⟩ := B_asked (i := (xs (i + 1))) (w := (xs (i + 2))) h
  exact C_asked hi hN h k hL m
theorem D_look (hi : i + 7 ≤ N) (hN : N ≤ 3584) (hn : n ≤ 1050) (h : LI g b N xs n s s H) : NX g b N xs n i 1292 H a5 a6 := by
  have fO := (LI_facts h).1
  obtain ⟨⟨H1, k, hL⟩, m⟩ := B_look (p := (xs (i + 1))) (w := (xs (i + 2))) (Nat.le_trans hn (by decide)) h
  rcases rg_look (s := s) (p := (xs (i + 1))) (w := (xs (i + 2))) with e | e | e
  · rw [e, if_pos rfl] at k
    exact C_look hi hN h (w0_look fO hL k) (LI_out hL _).1 (fun _ => (LI_out hL _).2) m ((by simp only [su_get, and_self, if_true]; exact e))
  · rw [e, if_neg (by decide), if_pos rfl] at k
    exact C_look hi hN h (w1_look fO k) hL (fun q => absurd q (by decide)) m ((by simp only [su_get, and_self, if_true]; exact e))
  · rw [e, if_neg (by decide), if_neg (by decide)] at k
    exact C_look hi hN h (w2_look fO k) hL (fun q => absurd q (by decide)) m ((by simp only [su_get, and_self, if_true]; exact e))
theorem D_craft (hi : i + 7 ≤ N) (hN : N ≤ 3584) (hn : n ≤ 1050) (h : LI g b N xs n s s H) : NX g b N xs n i 1360 H a5 a6 := by
  have fO := (LI_facts h).1
  obtain ⟨⟨H1, k, hL⟩, m⟩ := B_craft (x := (xs (i + 1))) (w := (xs (i + 2))) (Nat.le_trans hn (by decide)) h
  rcases rg_craft (s := s) (x := (xs (i + 1))) (w := (xs (i + 2))) with e | e | e
  · rw [e, if_pos rfl] at k
    exact C_craft hi hN h (w0_craft fO hL k) (LI_out hL _).1 (fun _ => (LI_out hL _).2) m ((by simp only [su_get, and_self, if_true]; exact e))
  · rw [e, if_neg (by decide), if_pos rfl] at k
    exact C_craft hi hN h (w1_craft fO k) hL (fun q => absurd q (by decide)) m ((by simp only [su_get, and_self, if_true]; exact e))
  · rw [e, if_neg (by decide), if_neg (by decide)] at k
    exact C_craft hi hN h (w2_craft fO k) hL (fun q => absurd q (by decide)) m ((by simp only [su_get, and_self, if_true]; exact e))
theorem D_fair (hi : i + 7 ≤ N) (hN : N ≤ 3584) (hn : n ≤ 1050) (h : LI g b N xs n s s H) : NX g b N xs n i 1428 H a5 a6 := by
  obtain ⟨r, ⟨H1, k, hL⟩, m⟩ := B_fair h
  exact C_fair hi hN h k hL m
theorem D_count (hi : i + 7 ≤ N) (hN : N ≤ 3584) (hn : n ≤ 1050) (h : LI g b N xs n s s H) : NX g b N xs n i 1441 H a5 a6 := by
  obtain ⟨r, ⟨H1, k, hL⟩, m⟩ := B_count (w := (xs (i + 1))) h
  exact C_count hi hN h k hL m
end DS
