theorem sp_X5_within (L : Nat) (xs : Nat → Int32) (sio : Option Nat) (d : Nat) (dt : Nat → Nat → Int) (hI : InvC dt)  (value : Int) (h_value : (-2147483648) ≤ value ∧ value ≤ 2147483647) (low : Int) (h_low : (-2147483648) ≤ low ∧ low ≤ 2147483647) (high : Int) (h_high : (-2147483648) ≤ high ∧ high ≤ 2147483647)  : GO (am_XX L xs sio) (d) 100 0 [some (.inl value), some (.inl low), some (.inl high)] [] (SH, dt) (fun r w2 => w2 = (SH, dt) ∧ ((r = some (.inl 1) ∧ (low ≤ value ∧ value ≤ high)) ∨ (r = some (.inl 0) ∧ (¬ (low ≤ value ∧ value ≤ high))))) := by
  refine go_ifq PM100 (k := 2) (p1 := 14) (p2 := 5) (L' := [some (.inl value), some (.inl low), some (.inl high)]) (st' := []) (w' := (SH, dt)) rfl (c_lt (a := value) (b := low) (by first | exact bnd h_value (by decide) (by decide) | exact ⟨by fail, by fail⟩) (by first | exact bnd h_low (by decide) (by decide) | exact ⟨by fail, by fail⟩)) (fun c1 => ?_) (fun c1 => ?_)
  · skip
    refine go_retq PM100 (k := 1) (r := some (.inl 0)) (w1 := (SH, dt)) rfl ?_
    exact ⟨rfl, (Or.inr ⟨rfl, by first | exact True.intro | with_reducible assumption | rfl | omega | trivial⟩)⟩
  · skip
    refine go_ifq PM100 (k := 2) (p1 := 14) (p2 := 10) (L' := [some (.inl value), some (.inl low), some (.inl high)]) (st' := []) (w' := (SH, dt)) rfl (c_gt (a := value) (b := high) (by first | exact bnd h_value (by decide) (by decide) | exact ⟨by fail, by fail⟩) (by first | exact bnd h_high (by decide) (by decide) | exact ⟨by fail, by fail⟩)) (fun c2 => ?_) (fun c2 => ?_)
    · skip
      refine go_retq PM100 (k := 1) (r := some (.inl 0)) (w1 := (SH, dt)) rfl ?_
      exact ⟨rfl, (Or.inr ⟨rfl, by first | exact True.intro | with_reducible assumption | rfl | omega | trivial⟩)⟩
    · skip
      refine go_retq PM100 (k := 2) (r := some (.inl 1)) (w1 := (SH, dt)) rfl ?_
      exact ⟨rfl, (Or.inl ⟨rfl, by first | exact True.intro | with_reducible assumption | rfl | omega | trivial⟩)⟩
theorem sp_X5_isScene (L : Nat) (xs : Nat → Int32) (sio : Option Nat) (d : Nat) (dt : Nat → Nat → Int) (hI : InvC dt)  (k : Int) (h_k : (-2147483648) ≤ k ∧ k ≤ 2147483647)  : GO (am_XX L xs sio) (d + 1) 102 0 [some (.inl k)] [] (SH, dt) (fun r w2 => w2 = (SH, dt) ∧ ((r = some (.inl 1) ∧ (0 ≤ k ∧ k ≤ 7)) ∨ (r = some (.inl 0) ∧ (¬ (0 ≤ k ∧ k ≤ 7))))) := by
  refine go_toq PM102 (k := 3) (pc' := 4) (L' := [some (.inl k)]) (st' := [.inl 7, .inl 0, .inl k]) (w' := (SH, dt)) rfl ?_
  refine go_callq PM102 PM100 (Q' := _) rfl rfl rfl rfl (sp_X5_within L xs sio (d + 0) dt hI  k (by first | exact h_k | exact bnd h_k (by decide) (by decide) | exact ⟨by fail, by fail⟩) 0 ⟨by decide, by decide⟩ 7 ⟨by decide, by decide⟩ ) ?_
  rintro _ _ ⟨rfl, h1⟩
  refine ⟨rfl, ?_⟩
  rcases h1 with ⟨rfl, h1⟩ | ⟨rfl, h1⟩
  · skip
    refine go_retq PM102 (k := 0) (r := some (.inl 1)) (w1 := (SH, dt)) rfl ?_
    exact ⟨rfl, (Or.inl ⟨rfl, by first | exact True.intro | with_reducible assumption | rfl | fail | trivial⟩)⟩
  · skip
    refine go_retq PM102 (k := 0) (r := some (.inl 0)) (w1 := (SH, dt)) rfl ?_
    exact ⟨rfl, (Or.inr ⟨rfl, by first | exact True.intro | with_reducible assumption | rfl | fail | trivial⟩)⟩
theorem sp_X5_isLaw (L : Nat) (xs : Nat → Int32) (sio : Option Nat) (d : Nat) (dt : Nat → Nat → Int) (hI : InvC dt)  (k : Int) (h_k : (-2147483648) ≤ k ∧ k ≤ 2147483647)  : GO (am_XX L xs sio) (d + 1) 103 0 [some (.inl k)] [] (SH, dt) (fun r w2 => w2 = (SH, dt) ∧ ((r = some (.inl 1) ∧ (0 ≤ k ∧ k ≤ 3)) ∨ (r = some (.inl 0) ∧ (¬ (0 ≤ k ∧ k ≤ 3))))) := by
  refine go_toq PM103 (k := 3) (pc' := 3) (L' := [some (.inl k)]) (st' := [.inl 3, .inl 0, .inl k]) (w' := (SH, dt)) rfl ?_
  refine go_callq PM103 PM100 (Q' := _) rfl rfl rfl rfl (sp_X5_within L xs sio (d + 0) dt hI  k (by first | exact h_k | exact bnd h_k (by decide) (by decide) | exact ⟨by fail, by fail⟩) 0 ⟨by decide, by decide⟩ 3 ⟨by decide, by decide⟩ ) ?_
  rintro _ _ ⟨rfl, h1⟩
  refine ⟨rfl, ?_⟩
  rcases h1 with ⟨rfl, h1⟩ | ⟨rfl, h1⟩
  · skip
    refine go_retq PM103 (k := 0) (r := some (.inl 1)) (w1 := (SH, dt)) rfl ?_
    exact ⟨rfl, (Or.inl ⟨rfl, by first | exact True.intro | with_reducible assumption | rfl | fail | trivial⟩)⟩
  · skip
    refine go_retq PM103 (k := 0) (r := some (.inl 0)) (w1 := (SH, dt)) rfl ?_
    exact ⟨rfl, (Or.inr ⟨rfl, by first | exact True.intro | with_reducible assumption | rfl | fail | trivial⟩)⟩
theorem sp_X5_isThing (L : Nat) (xs : Nat → Int32) (sio : Option Nat) (d : Nat) (dt : Nat → Nat → Int) (hI : InvC dt)  (k : Int) (h_k : (-2147483648) ≤ k ∧ k ≤ 2147483647)  : GO (am_XX L xs sio) (d + 1) 104 0 [some (.inl k)] [] (SH, dt) (fun r w2 => w2 = (SH, dt) ∧ ((r = some (.inl 1) ∧ (0 ≤ k ∧ k ≤ 2)) ∨ (r = some (.inl 0) ∧ (¬ (0 ≤ k ∧ k ≤ 2))))) := by
  refine go_toq PM104 (k := 3) (pc' := 3) (L' := [some (.inl k)]) (st' := [.inl 2, .inl 0, .inl k]) (w' := (SH, dt)) rfl ?_
  refine go_callq PM104 PM100 (Q' := _) rfl rfl rfl rfl (sp_X5_within L xs sio (d + 0) dt hI  k (by first | exact h_k | exact bnd h_k (by decide) (by decide) | exact ⟨by fail, by fail⟩) 0 ⟨by decide, by decide⟩ 2 ⟨by decide, by decide⟩ ) ?_
  rintro _ _ ⟨rfl, h1⟩
  refine ⟨rfl, ?_⟩
  rcases h1 with ⟨rfl, h1⟩ | ⟨rfl, h1⟩
  · skip
    refine go_retq PM104 (k := 0) (r := some (.inl 1)) (w1 := (SH, dt)) rfl ?_
    exact ⟨rfl, (Or.inl ⟨rfl, by first | exact True.intro | with_reducible assumption | rfl | fail | trivial⟩)⟩
  · skip
    refine go_retq PM104 (k := 0) (r := some (.inl 0)) (w1 := (SH, dt)) rfl ?_
    exact ⟨rfl, (Or.inr ⟨rfl, by first | exact True.intro | with_reducible assumption | rfl | fail | trivial⟩)⟩
theorem sp_X5_isWho (L : Nat) (xs : Nat → Int32) (sio : Option Nat) (d : Nat) (dt : Nat → Nat → Int) (hI : InvC dt)  (k : Int) (h_k : (-2147483648) ≤ k ∧ k ≤ 2147483647)  : GO (am_XX L xs sio) (d + 1) 105 0 [some (.inl k)] [] (SH, dt) (fun r w2 => w2 = (SH, dt) ∧ ((r = some (.inl 1) ∧ (0 ≤ k ∧ k ≤ 3)) ∨ (r = some (.inl 0) ∧ (¬ (0 ≤ k ∧ k ≤ 3))))) := by
  refine go_toq PM105 (k := 3) (pc' := 3) (L' := [some (.inl k)]) (st' := [.inl 3, .inl 0, .inl k]) (w' := (SH, dt)) rfl ?_
  refine go_callq PM105 PM100 (Q' := _) rfl rfl rfl rfl (sp_X5_within L xs sio (d + 0) dt hI  k (by first | exact h_k | exact bnd h_k (by decide) (by decide) | exact ⟨by fail, by fail⟩) 0 ⟨by decide, by decide⟩ 3 ⟨by decide, by decide⟩ ) ?_
  rintro _ _ ⟨rfl, h1⟩
  refine ⟨rfl, ?_⟩
  rcases h1 with ⟨rfl, h1⟩ | ⟨rfl, h1⟩
  · skip
    refine go_retq PM105 (k := 0) (r := some (.inl 1)) (w1 := (SH, dt)) rfl ?_
    exact ⟨rfl, (Or.inl ⟨rfl, by first | exact True.intro | with_reducible assumption | rfl | fail | trivial⟩)⟩
  · skip
    refine go_retq PM105 (k := 0) (r := some (.inl 0)) (w1 := (SH, dt)) rfl ?_
    exact ⟨rfl, (Or.inr ⟨rfl, by first | exact True.intro | with_reducible assumption | rfl | fail | trivial⟩)⟩
theorem sp_X5_isRule (L : Nat) (xs : Nat → Int32) (sio : Option Nat) (d : Nat) (dt : Nat → Nat → Int) (hI : InvC dt)  (k : Int) (h_k : (-2147483648) ≤ k ∧ k ≤ 2147483647)  : GO (am_XX L xs sio) (d + 1) 106 0 [some (.inl k)] [] (SH, dt) (fun r w2 => w2 = (SH, dt) ∧ ((r = some (.inl 1) ∧ (0 ≤ k ∧ k ≤ 7)) ∨ (r = some (.inl 0) ∧ (¬ (0 ≤ k ∧ k ≤ 7))))) := by
  refine go_toq PM106 (k := 3) (pc' := 4) (L' := [some (.inl k)]) (st' := [.inl 7, .inl 0, .inl k]) (w' := (SH, dt)) rfl ?_
  refine go_callq PM106 PM100 (Q' := _) rfl rfl rfl rfl (sp_X5_within L xs sio (d + 0) dt hI  k (by first | exact h_k | exact bnd h_k (by decide) (by decide) | exact ⟨by fail, by fail⟩) 0 ⟨by decide, by decide⟩ 7 ⟨by decide, by decide⟩ ) ?_
  rintro _ _ ⟨rfl, h1⟩
  refine ⟨rfl, ?_⟩
  rcases h1 with ⟨rfl, h1⟩ | ⟨rfl, h1⟩
  · skip
    refine go_retq PM106 (k := 0) (r := some (.inl 1)) (w1 := (SH, dt)) rfl ?_
    exact ⟨rfl, (Or.inl ⟨rfl, by first | exact True.intro | with_reducible assumption | rfl | fail | trivial⟩)⟩
  · skip
    refine go_retq PM106 (k := 0) (r := some (.inl 0)) (w1 := (SH, dt)) rfl ?_
    exact ⟨rfl, (Or.inr ⟨rfl, by first | exact True.intro | with_reducible assumption | rfl | fail | trivial⟩)⟩
theorem sp_X5_isAnswer (L : Nat) (xs : Nat → Int32) (sio : Option Nat) (d : Nat) (dt : Nat → Nat → Int) (hI : InvC dt)  (k : Int) (h_k : (-2147483648) ≤ k ∧ k ≤ 2147483647)  : GO (am_XX L xs sio) (d + 1) 107 0 [some (.inl k)] [] (SH, dt) (fun r w2 => w2 = (SH, dt) ∧ ((r = some (.inl 1) ∧ ((-1) ≤ k ∧ k ≤ 3)) ∨ (r = some (.inl 0) ∧ (¬ ((-1) ≤ k ∧ k ≤ 3))))) := by
  refine go_toq PM107 (k := 3) (pc' := 3) (L' := [some (.inl k)]) (st' := [.inl 3, .inl (-1), .inl k]) (w' := (SH, dt)) rfl ?_
  refine go_callq PM107 PM100 (Q' := _) rfl rfl rfl rfl (sp_X5_within L xs sio (d + 0) dt hI  k (by first | exact h_k | exact bnd h_k (by decide) (by decide) | exact ⟨by fail, by fail⟩) (-1) ⟨by decide, by decide⟩ 3 ⟨by decide, by decide⟩ ) ?_
  rintro _ _ ⟨rfl, h1⟩
  refine ⟨rfl, ?_⟩
  rcases h1 with ⟨rfl, h1⟩ | ⟨rfl, h1⟩
  · skip
    refine go_retq PM107 (k := 0) (r := some (.inl 1)) (w1 := (SH, dt)) rfl ?_
    exact ⟨rfl, (Or.inl ⟨rfl, by first | exact True.intro | with_reducible assumption | rfl | fail | trivial⟩)⟩
  · skip
    refine go_retq PM107 (k := 0) (r := some (.inl 0)) (w1 := (SH, dt)) rfl ?_
    exact ⟨rfl, (Or.inr ⟨rfl, by first | exact True.intro | with_reducible assumption | rfl | fail | trivial⟩)⟩
theorem sp_X5_cut (L : Nat) (xs : Nat → Int32) (sio : Option Nat) (d : Nat) (dt : Nat → Nat → Int) (hI : InvC dt)  (value : Int) (h_value : (-2147483648) ≤ value ∧ value ≤ 2147483647) (most : Int) (h_most : 0 ≤ most ∧ most ≤ 1000000)  : GO (am_XX L xs sio) (d + 1) 101 0 [some (.inl value), some (.inl most)] [] (SH, dt) (fun r w2 => w2 = (SH, dt) ∧ ((∃ v : Int, r = some (.inl v) ∧ (0 ≤ v ∧ v ≤ 1000000) ∧ (v ≤ most)))) := by
  refine go_toq PM101 (k := 3) (pc' := 3) (L' := [some (.inl value), some (.inl most)]) (st' := [.inl value, .inl most, .inl 0]) (w' := (SH, dt)) rfl ?_
  refine go_callq PM101 PM266 (Q' := _) rfl rfl rfl rfl (sp_J9_min_7cf53 L xs sio (d + 0) dt hI  most (by first | exact bnd h_most (by decide) (by decide) | exact ⟨by fail, by fail⟩) value (by first | exact h_value | exact bnd h_value (by decide) (by decide) | exact ⟨by fail, by fail⟩) ) ?_
  rintro _ _ ⟨rfl, h1⟩
  refine ⟨rfl, ?_⟩
  rcases h1 with ⟨v_h1, rfl, h1r, h1⟩
  refine go_callq PM101 PM265 (Q' := _) rfl rfl rfl rfl (sp_J9_max_7cf53 L xs sio (d + 0) dt hI  0 ⟨by decide, by decide⟩ v_h1 (by first | exact bnd h1r (by decide) (by decide) | exact ⟨by fail, by fail⟩) ) ?_
  rintro _ _ ⟨rfl, h2⟩
  refine ⟨rfl, ?_⟩
  rcases h2 with ⟨v_h2, rfl, h2r, h2⟩
  refine go_retq PM101 (k := 0) (r := some (.inl v_h2)) (w1 := (SH, dt)) rfl ?_
  exact ⟨rfl, ⟨_, rfl, (by first | exact bnd h2r (by decide) (by decide) | exact ⟨by omega, by omega⟩), by first | exact True.intro | with_reducible assumption | rfl | omega | trivial⟩⟩
theorem sp_X2_has_7 (L : Nat) (xs : Nat → Int32) (sio : Option Nat) (d : Nat) (dt : Nat → Nat → Int) (hI : InvC dt)  (row : Int) (h_row : (-2147483648) ≤ row ∧ row ≤ 2147483647)  : GO (am_XX L xs sio) (d) 37 0 [some (.inr (.inr (some 7))), some (.inl row)] [] (SH, dt) (fun r w2 => w2 = (SH, dt) ∧ ((r = some (.inl 1) ∧ (0 ≤ row ∧ row < dt 7 3)) ∨ (r = some (.inl 0) ∧ (¬ (0 ≤ row ∧ row < dt 7 3))))) := by
  refine go_ifq PM37 (k := 1) (p1 := 16) (p2 := 4) (L' := [some (.inr (.inr (some 7))), some (.inl row)]) (st' := []) (w' := (SH, dt)) rfl (z_lt (a := row) (by first | exact bnd h_row (by decide) (by decide) | exact ⟨by fail, by fail⟩)) (fun c1 => ?_) (fun c1 => ?_)
  · skip
    refine go_retq PM37 (k := 1) (r := some (.inl 0)) (w1 := (SH, dt)) rfl ?_
    exact ⟨rfl, (Or.inr ⟨rfl, by first | exact True.intro | with_reducible assumption | rfl | omega | trivial⟩)⟩
  · skip
    have r2 : 0 ≤ dt 7 3 ∧ dt 7 3 ≤ 12 := InvC_get hI 7 3 rfl rfl
    refine go_ifq PM37 (k := 3) (p1 := 16) (p2 := 12) (L' := [some (.inr (.inr (some 7))), some (.inl row)]) (st' := []) (w' := (SH, dt)) rfl (c_ge (a := row) (b := dt 7 3) (by first | exact bnd h_row (by decide) (by decide) | exact ⟨by fail, by fail⟩) (by first | exact bnd r2 (by decide) (by decide) | exact ⟨by fail, by fail⟩)) (fun c3 => ?_) (fun c3 => ?_)
    · skip
      refine go_retq PM37 (k := 1) (r := some (.inl 0)) (w1 := (SH, dt)) rfl ?_
      exact ⟨rfl, (Or.inr ⟨rfl, by first | exact True.intro | with_reducible assumption | rfl | omega | trivial⟩)⟩
    · skip
      refine go_retq PM37 (k := 2) (r := some (.inl 1)) (w1 := (SH, dt)) rfl ?_
      exact ⟨rfl, (Or.inl ⟨rfl, by first | exact True.intro | with_reducible assumption | rfl | omega | trivial⟩)⟩
theorem sp_X2_isFull_7 (L : Nat) (xs : Nat → Int32) (sio : Option Nat) (d : Nat) (dt : Nat → Nat → Int) (hI : InvC dt)    : GO (am_XX L xs sio) (d) 38 0 [some (.inr (.inr (some 7)))] [] (SH, dt) (fun r w2 => w2 = (SH, dt) ∧ ((r = some (.inl 1) ∧ (12 ≤ dt 7 3)) ∨ (r = some (.inl 0) ∧ (¬ (12 ≤ dt 7 3))))) := by
  have r1 : 0 ≤ dt 7 3 ∧ dt 7 3 ≤ 12 := InvC_get hI 7 3 rfl rfl
  refine go_toq PM38 (k := 3) (pc' := 5) (L' := [some (.inr (.inr (some 7)))]) (st' := [.inr (.inr (some 7)), .inl (dt 7 3)]) (w' := (SH, dt)) rfl ?_
  refine go_smpq PM38 (L' := [some (.inr (.inr (some 7)))]) (st' := [.inl 12, .inl (dt 7 3)]) (w' := (SH, dt)) rfl rfl (s_gfc rfl rfl rfl (hI.2 7 0 rfl)) ?_
  refine go_ifq PM38 (k := 0) (p1 := 15) (p2 := 11) (L' := [some (.inr (.inr (some 7)))]) (st' := []) (w' := (SH, dt)) rfl (c_lt (a := dt 7 3) (b := 12) (by first | exact bnd r1 (by decide) (by decide) | exact ⟨by fail, by fail⟩) ⟨by decide, by decide⟩) (fun c2 => ?_) (fun c2 => ?_)
  · skip
    refine go_retq PM38 (k := 1) (r := some (.inl 0)) (w1 := (SH, dt)) rfl ?_
    exact ⟨rfl, (Or.inr ⟨rfl, by first | exact True.intro | with_reducible assumption | rfl | omega | trivial⟩)⟩
  · skip
    refine go_retq PM38 (k := 2) (r := some (.inl 1)) (w1 := (SH, dt)) rfl ?_
    exact ⟨rfl, (Or.inl ⟨rfl, by first | exact True.intro | with_reducible assumption | rfl | omega | trivial⟩)⟩
theorem sp_X2_at_7 (L : Nat) (xs : Nat → Int32) (sio : Option Nat) (d : Nat) (dt : Nat → Nat → Int) (hI : InvC dt)  (row : Int) (h_row : (-2147483648) ≤ row ∧ row ≤ 2147483647) (column : Int) (h_column : (-2147483648) ≤ column ∧ column ≤ 2147483647)  : GO (am_XX L xs sio) (d + 1) 39 0 [some (.inr (.inr (some 7))), some (.inl row), some (.inl column)] [] (SH, dt) (fun r w2 => w2 = (SH, dt) ∧ ((∃ v : Int, r = some (.inl v) ∧ ((-2147483648) ≤ v ∧ v ≤ 2147483647) ∧ True))) := by
  have r1 : 0 ≤ dt 7 3 ∧ dt 7 3 ≤ 12 := InvC_get hI 7 3 rfl rfl
  refine go_toq PM39 (k := 2) (pc' := 2) (L' := [some (.inr (.inr (some 7))), some (.inl row), some (.inl column)]) (st' := [.inl row, .inr (.inr (some 7))]) (w' := (SH, dt)) rfl ?_
  refine go_callq PM39 PM37 (Q' := _) rfl rfl rfl rfl (sp_X2_has_7 L xs sio (d + 0) dt hI  row (by first | exact h_row | exact bnd h_row (by decide) (by decide) | exact ⟨by fail, by fail⟩) ) ?_
  rintro _ _ ⟨rfl, h2⟩
  refine ⟨rfl, ?_⟩
  rcases h2 with ⟨rfl, h2⟩ | ⟨rfl, h2⟩
  · skip
    refine go_ifq PM39 (k := 2) (p1 := 36) (p2 := 12) (L' := [some (.inr (.inr (some 7))), some (.inl row), some (.inl column)]) (st' := []) (w' := (SH, dt)) rfl (z_lt (a := column) (by first | exact bnd h_column (by decide) (by decide) | exact ⟨by fail, by fail⟩)) (fun c3 => ?_) (fun c3 => ?_)
    · skip
      refine go_retq PM39 (k := 1) (r := some (.inl (-1))) (w1 := (SH, dt)) rfl ?_
      exact ⟨rfl, ⟨_, rfl, ⟨by decide, by decide⟩, trivial⟩⟩
    · skip
      refine go_toq PM39 (k := 2) (pc' := 14) (L' := [some (.inr (.inr (some 7))), some (.inl row), some (.inl column)]) (st' := [.inr (.inr (some 7)), .inl column]) (w' := (SH, dt)) rfl ?_
      refine go_smpq PM39 (L' := [some (.inr (.inr (some 7))), some (.inl row), some (.inl column)]) (st' := [.inl 5, .inl column]) (w' := (SH, dt)) rfl rfl (s_gfc rfl rfl rfl (hI.2 7 1 rfl)) ?_
      refine go_ifq PM39 (k := 0) (p1 := 36) (p2 := 20) (L' := [some (.inr (.inr (some 7))), some (.inl row), some (.inl column)]) (st' := []) (w' := (SH, dt)) rfl (c_ge (a := column) (b := 5) (by first | exact bnd h_column (by decide) (by decide) | exact ⟨by fail, by fail⟩) ⟨by decide, by decide⟩) (fun c4 => ?_) (fun c4 => ?_)
      · skip
        refine go_retq PM39 (k := 1) (r := some (.inl (-1))) (w1 := (SH, dt)) rfl ?_
        exact ⟨rfl, ⟨_, rfl, ⟨by decide, by decide⟩, trivial⟩⟩
      · skip
        refine go_toq PM39 (k := 4) (pc' := 26) (L' := [some (.inr (.inr (some 7))), some (.inl row), some (.inl column)]) (st' := [.inr (.inr (some 7)), .inl row, .inr (.inr (some 8))]) (w' := (SH, dt)) rfl ?_
        refine go_smpq PM39 (L' := [some (.inr (.inr (some 7))), some (.inl row), some (.inl column)]) (st' := [.inl 5, .inl row, .inr (.inr (some 8))]) (w' := (SH, dt)) rfl rfl (s_gfc rfl rfl rfl (hI.2 7 1 rfl)) ?_
        refine go_toq PM39 (k := 3) (pc' := 32) (L' := [some (.inr (.inr (some 7))), some (.inl row), some (.inl column)]) (st' := [.inl ((row * 5) + column), .inr (.inr (some 8))]) (w' := (SH, dt)) rfl ?_
        have r5 : (-2147483648) ≤ dt 8 (((row * 5) + column).toNat) ∧ dt 8 (((row * 5) + column).toNat) ≤ 2147483647 := InvC_get hI 8 (((row * 5) + column).toNat) rfl rfl
        refine go_smpq PM39 (L' := [some (.inr (.inr (some 7))), some (.inl row), some (.inl column)]) (st' := [.inl (dt 8 (((row * 5) + column).toNat))]) (w' := (SH, dt)) rfl rfl (s_iald (n := 60) (f := dt 8) rfl ⟨by omega, by omega⟩) ?_
        refine go_retq PM39 (k := 1) (r := some (.inl (dt 8 (((row * 5) + column).toNat)))) (w1 := (SH, dt)) rfl ?_
        exact ⟨rfl, ⟨_, rfl, (by first | exact bnd r5 (by decide) (by decide) | exact ⟨by fail, by fail⟩), trivial⟩⟩
  · skip
    refine go_retq PM39 (k := 2) (r := some (.inl (-1))) (w1 := (SH, dt)) rfl ?_
    exact ⟨rfl, ⟨_, rfl, ⟨by decide, by decide⟩, trivial⟩⟩
theorem sp_X2_has_10 (L : Nat) (xs : Nat → Int32) (sio : Option Nat) (d : Nat) (dt : Nat → Nat → Int) (hI : InvC dt)  (row : Int) (h_row : (-2147483648) ≤ row ∧ row ≤ 2147483647)  : GO (am_XX L xs sio) (d) 37 0 [some (.inr (.inr (some 10))), some (.inl row)] [] (SH, dt) (fun r w2 => w2 = (SH, dt) ∧ ((r = some (.inl 1) ∧ (0 ≤ row ∧ row < dt 10 3)) ∨ (r = some (.inl 0) ∧ (¬ (0 ≤ row ∧ row < dt 10 3))))) := by
  refine go_ifq PM37 (k := 1) (p1 := 16) (p2 := 4) (L' := [some (.inr (.inr (some 10))), some (.inl row)]) (st' := []) (w' := (SH, dt)) rfl (z_lt (a := row) (by first | exact bnd h_row (by decide) (by decide) | exact ⟨by fail, by fail⟩)) (fun c1 => ?_) (fun c1 => ?_)
  · skip
    refine go_retq PM37 (k := 1) (r := some (.inl 0)) (w1 := (SH, dt)) rfl ?_
    exact ⟨rfl, (Or.inr ⟨rfl, by first | exact True.intro | with_reducible assumption | rfl | omega | trivial⟩)⟩
  · skip
    have r2 : 0 ≤ dt 10 3 ∧ dt 10 3 ≤ 40 := InvC_get hI 10 3 rfl rfl
    refine go_ifq PM37 (k := 3) (p1 := 16) (p2 := 12) (L' := [some (.inr (.inr (some 10))), some (.inl row)]) (st' := []) (w' := (SH, dt)) rfl (c_ge (a := row) (b := dt 10 3) (by first | exact bnd h_row (by decide) (by decide) | exact ⟨by fail, by fail⟩) (by first | exact bnd r2 (by decide) (by decide) | exact ⟨by fail, by fail⟩)) (fun c3 => ?_) (fun c3 => ?_)
    · skip
      refine go_retq PM37 (k := 1) (r := some (.inl 0)) (w1 := (SH, dt)) rfl ?_
      exact ⟨rfl, (Or.inr ⟨rfl, by first | exact True.intro | with_reducible assumption | rfl | omega | trivial⟩)⟩
    · skip
      refine go_retq PM37 (k := 2) (r := some (.inl 1)) (w1 := (SH, dt)) rfl ?_
      exact ⟨rfl, (Or.inl ⟨rfl, by first | exact True.intro | with_reducible assumption | rfl | omega | trivial⟩)⟩
theorem sp_X2_isFull_10 (L : Nat) (xs : Nat → Int32) (sio : Option Nat) (d : Nat) (dt : Nat → Nat → Int) (hI : InvC dt)    : GO (am_XX L xs sio) (d) 38 0 [some (.inr (.inr (some 10)))] [] (SH, dt) (fun r w2 => w2 = (SH, dt) ∧ ((r = some (.inl 1) ∧ (40 ≤ dt 10 3)) ∨ (r = some (.inl 0) ∧ (¬ (40 ≤ dt 10 3))))) := by
  have r1 : 0 ≤ dt 10 3 ∧ dt 10 3 ≤ 40 := InvC_get hI 10 3 rfl rfl
  refine go_toq PM38 (k := 3) (pc' := 5) (L' := [some (.inr (.inr (some 10)))]) (st' := [.inr (.inr (some 10)), .inl (dt 10 3)]) (w' := (SH, dt)) rfl ?_
  refine go_smpq PM38 (L' := [some (.inr (.inr (some 10)))]) (st' := [.inl 40, .inl (dt 10 3)]) (w' := (SH, dt)) rfl rfl (s_gfc rfl rfl rfl (hI.2 10 0 rfl)) ?_
  refine go_ifq PM38 (k := 0) (p1 := 15) (p2 := 11) (L' := [some (.inr (.inr (some 10)))]) (st' := []) (w' := (SH, dt)) rfl (c_lt (a := dt 10 3) (b := 40) (by first | exact bnd r1 (by decide) (by decide) | exact ⟨by fail, by fail⟩) ⟨by decide, by decide⟩) (fun c2 => ?_) (fun c2 => ?_)
  · skip
    refine go_retq PM38 (k := 1) (r := some (.inl 0)) (w1 := (SH, dt)) rfl ?_
    exact ⟨rfl, (Or.inr ⟨rfl, by first | exact True.intro | with_reducible assumption | rfl | omega | trivial⟩)⟩
  · skip
    refine go_retq PM38 (k := 2) (r := some (.inl 1)) (w1 := (SH, dt)) rfl ?_
    exact ⟨rfl, (Or.inl ⟨rfl, by first | exact True.intro | with_reducible assumption | rfl | omega | trivial⟩)⟩
theorem sp_X2_at_10 (L : Nat) (xs : Nat → Int32) (sio : Option Nat) (d : Nat) (dt : Nat → Nat → Int) (hI : InvC dt)  (row : Int) (h_row : (-2147483648) ≤ row ∧ row ≤ 2147483647) (column : Int) (h_column : (-2147483648) ≤ column ∧ column ≤ 2147483647)  : GO (am_XX L xs sio) (d + 1) 39 0 [some (.inr (.inr (some 10))), some (.inl row), some (.inl column)] [] (SH, dt) (fun r w2 => w2 = (SH, dt) ∧ ((∃ v : Int, r = some (.inl v) ∧ ((-2147483648) ≤ v ∧ v ≤ 2147483647) ∧ True))) := by
  have r1 : 0 ≤ dt 10 3 ∧ dt 10 3 ≤ 40 := InvC_get hI 10 3 rfl rfl
  refine go_toq PM39 (k := 2) (pc' := 2) (L' := [some (.inr (.inr (some 10))), some (.inl row), some (.inl column)]) (st' := [.inl row, .inr (.inr (some 10))]) (w' := (SH, dt)) rfl ?_
  refine go_callq PM39 PM37 (Q' := _) rfl rfl rfl rfl (sp_X2_has_10 L xs sio (d + 0) dt hI  row (by first | exact h_row | exact bnd h_row (by decide) (by decide) | exact ⟨by fail, by fail⟩) ) ?_
  rintro _ _ ⟨rfl, h2⟩
  refine ⟨rfl, ?_⟩
  rcases h2 with ⟨rfl, h2⟩ | ⟨rfl, h2⟩
  · skip
    refine go_ifq PM39 (k := 2) (p1 := 36) (p2 := 12) (L' := [some (.inr (.inr (some 10))), some (.inl row), some (.inl column)]) (st' := []) (w' := (SH, dt)) rfl (z_lt (a := column) (by first | exact bnd h_column (by decide) (by decide) | exact ⟨by fail, by fail⟩)) (fun c3 => ?_) (fun c3 => ?_)
    · skip
      refine go_retq PM39 (k := 1) (r := some (.inl (-1))) (w1 := (SH, dt)) rfl ?_
      exact ⟨rfl, ⟨_, rfl, ⟨by decide, by decide⟩, trivial⟩⟩
    · skip
      refine go_toq PM39 (k := 2) (pc' := 14) (L' := [some (.inr (.inr (some 10))), some (.inl row), some (.inl column)]) (st' := [.inr (.inr (some 10)), .inl column]) (w' := (SH, dt)) rfl ?_
      refine go_smpq PM39 (L' := [some (.inr (.inr (some 10))), some (.inl row), some (.inl column)]) (st' := [.inl 4, .inl column]) (w' := (SH, dt)) rfl rfl (s_gfc rfl rfl rfl (hI.2 10 1 rfl)) ?_
      refine go_ifq PM39 (k := 0) (p1 := 36) (p2 := 20) (L' := [some (.inr (.inr (some 10))), some (.inl row), some (.inl column)]) (st' := []) (w' := (SH, dt)) rfl (c_ge (a := column) (b := 4) (by first | exact bnd h_column (by decide) (by decide) | exact ⟨by fail, by fail⟩) ⟨by decide, by decide⟩) (fun c4 => ?_) (fun c4 => ?_)
      · skip
        refine go_retq PM39 (k := 1) (r := some (.inl (-1))) (w1 := (SH, dt)) rfl ?_
        exact ⟨rfl, ⟨_, rfl, ⟨by decide, by decide⟩, trivial⟩⟩
      · skip
        refine go_toq PM39 (k := 4) (pc' := 26) (L' := [some (.inr (.inr (some 10))), some (.inl row), some (.inl column)]) (st' := [.inr (.inr (some 10)), .inl row, .inr (.inr (some 11))]) (w' := (SH, dt)) rfl ?_
        refine go_smpq PM39 (L' := [some (.inr (.inr (some 10))), some (.inl row), some (.inl column)]) (st' := [.inl 4, .inl row, .inr (.inr (some 11))]) (w' := (SH, dt)) rfl rfl (s_gfc rfl rfl rfl (hI.2 10 1 rfl)) ?_
        refine go_toq PM39 (k := 3) (pc' := 32) (L' := [some (.inr (.inr (some 10))), some (.inl row), some (.inl column)]) (st' := [.inl ((row * 4) + column), .inr (.inr (some 11))]) (w' := (SH, dt)) rfl ?_
        have r5 : (-2147483648) ≤ dt 11 (((row * 4) + column).toNat) ∧ dt 11 (((row * 4) + column).toNat) ≤ 2147483647 := InvC_get hI 11 (((row * 4) + column).toNat) rfl rfl
        refine go_smpq PM39 (L' := [some (.inr (.inr (some 10))), some (.inl row), some (.inl column)]) (st' := [.inl (dt 11 (((row * 4) + column).toNat))]) (w' := (SH, dt)) rfl rfl (s_iald (n := 160) (f := dt 11) rfl ⟨by omega, by omega⟩) ?_
        refine go_retq PM39 (k := 1) (r := some (.inl (dt 11 (((row * 4) + column).toNat)))) (w1 := (SH, dt)) rfl ?_
        exact ⟨rfl, ⟨_, rfl, (by first | exact bnd r5 (by decide) (by decide) | exact ⟨by fail, by fail⟩), trivial⟩⟩
  · skip
    refine go_retq PM39 (k := 2) (r := some (.inl (-1))) (w1 := (SH, dt)) rfl ?_
    exact ⟨rfl, ⟨_, rfl, ⟨by decide, by decide⟩, trivial⟩⟩
theorem sp_X2_set_10 (L : Nat) (xs : Nat → Int32) (sio : Option Nat) (d : Nat) (dt : Nat → Nat → Int) (hI : InvC dt)  (column : Int) (h_column : 0 ≤ column ∧ column ≤ 1000) (value : Int) (h_value : (-2147483648) ≤ value ∧ value ≤ 2147483647)  : GO (am_XX L xs sio) (d) 41 0 [some (.inr (.inr (some 10))), some (.inl column), some (.inl value)] [] (SH, dt) (fun r w2 => ∃ dt2 : Nat → Nat → Int, w2 = (SH, dt2) ∧ InvC dt2 ∧ Fr [11] dt dt2 ∧ ((r = none ∧ True))) := by
  have hF : Fr [11] dt dt := Fr_refl
  have r1 : 0 ≤ dt 10 3 ∧ dt 10 3 ≤ 40 := InvC_get hI 10 3 rfl rfl
  have r2 : 0 ≤ dt 10 3 ∧ dt 10 3 ≤ 40 := InvC_get hI 10 3 rfl rfl
  refine go_ifq PM41 (k := 2) (p1 := 34) (p2 := 7) (L' := [some (.inr (.inr (some 10))), some (.inl column), some (.inl value)]) (st' := []) (w' := (SH, dt)) rfl (z_le (a := dt 10 3) (by first | exact bnd r2 (by decide) (by decide) | exact ⟨by omega, by omega⟩)) (fun c3 => ?_) (fun c3 => ?_)
  · skip
    refine go_retq PM41 (k := 0) (r := none) (w1 := (SH, dt)) rfl ?_
    exact ⟨dt, rfl, hI, hF, ⟨rfl, trivial⟩⟩
  · skip
    refine go_toq PM41 (k := 2) (pc' := 9) (L' := [some (.inr (.inr (some 10))), some (.inl column), some (.inl value)]) (st' := [.inr (.inr (some 10)), .inl column]) (w' := (SH, dt)) rfl ?_
    refine go_smpq PM41 (L' := [some (.inr (.inr (some 10))), some (.inl column), some (.inl value)]) (st' := [.inl 4, .inl column]) (w' := (SH, dt)) rfl rfl (s_gfc rfl rfl rfl (hI.2 10 1 rfl)) ?_
    refine go_ifq PM41 (k := 0) (p1 := 34) (p2 := 15) (L' := [some (.inr (.inr (some 10))), some (.inl column), some (.inl value)]) (st' := []) (w' := (SH, dt)) rfl (c_ge (a := column) (b := 4) (by first | exact bnd h_column (by decide) (by decide) | exact ⟨by omega, by omega⟩) ⟨by decide, by decide⟩) (fun c4 => ?_) (fun c4 => ?_)
    · skip
      refine go_retq PM41 (k := 0) (r := none) (w1 := (SH, dt)) rfl ?_
      exact ⟨dt, rfl, hI, hF, ⟨rfl, trivial⟩⟩
    · skip
      have r5 : 0 ≤ dt 10 3 ∧ dt 10 3 ≤ 40 := InvC_get hI 10 3 rfl rfl
      refine go_toq PM41 (k := 7) (pc' := 26) (L' := [some (.inr (.inr (some 10))), some (.inl column), some (.inl value)]) (st' := [.inr (.inr (some 10)), .inl ((dt 10 3) - 1), .inr (.inr (some 11))]) (w' := (SH, dt)) rfl ?_
      refine go_smpq PM41 (L' := [some (.inr (.inr (some 10))), some (.inl column), some (.inl value)]) (st' := [.inl 4, .inl ((dt 10 3) - 1), .inr (.inr (some 11))]) (w' := (SH, dt)) rfl rfl (s_gfc rfl rfl rfl (hI.2 10 1 rfl)) ?_
      refine go_toq PM41 (k := 4) (pc' := 33) (L' := [some (.inr (.inr (some 10))), some (.inl column), some (.inl value)]) (st' := [.inl value, .inl ((((dt 10 3) - 1) * 4) + column), .inr (.inr (some 11))]) (w' := (SH, dt)) rfl ?_
      have hI6 : InvC (u2 dt 11 (((((dt 10 3) - 1) * 4) + column).toNat) value) := InvC_u2 hI (lo := -2147483648) (hi := 2147483647) rfl rfl rfl (by first | exact bnd1 h_value (by decide) | omega) (by first | exact bnd2 h_value (by decide) | omega)
      have hF7 : Fr [11] dt (u2 dt 11 (((((dt 10 3) - 1) * 4) + column).toNat) value) := Fr_u2 hF (by decide)
      refine go_smpq PM41 (L' := [some (.inr (.inr (some 10))), some (.inl column), some (.inl value)]) (st' := []) (w' := (SH, (u2 dt 11 (((((dt 10 3) - 1) * 4) + column).toNat) value))) rfl rfl (s_iast (n := 160) rfl ⟨by omega, by omega⟩ (by first | exact bnd h_value (by decide) (by decide) | exact ⟨by omega, by omega⟩)) ?_
      refine go_retq PM41 (k := 0) (r := none) (w1 := (SH, (u2 dt 11 (((((dt 10 3) - 1) * 4) + column).toNat) value))) rfl ?_
      exact ⟨(u2 dt 11 (((((dt 10 3) - 1) * 4) + column).toNat) value), rfl, hI6, hF7, ⟨rfl, trivial⟩⟩
theorem sp_X2_add_10 (L : Nat) (xs : Nat → Int32) (sio : Option Nat) (d : Nat) (dt : Nat → Nat → Int) (hI : InvC dt)  (a0 : Int) (h_a0 : (-2147483648) ≤ a0 ∧ a0 ≤ 2147483647) (a1 : Int) (h_a1 : (-2147483648) ≤ a1 ∧ a1 ≤ 2147483647) (a2 : Int) (h_a2 : (-2147483648) ≤ a2 ∧ a2 ≤ 2147483647) (a3 : Int) (h_a3 : (-2147483648) ≤ a3 ∧ a3 ≤ 2147483647) (a4 : Int) (h_a4 : (-2147483648) ≤ a4 ∧ a4 ≤ 2147483647) (a5 : Int) (h_a5 : (-2147483648) ≤ a5 ∧ a5 ≤ 2147483647)  : GO (am_XX L xs sio) (d + 1) 40 0 [some (.inr (.inr (some 10))), some (.inl a0), some (.inl a1), some (.inl a2), some (.inl a3), some (.inl a4), some (.inl a5)] [] (SH, dt) (fun r w2 => ∃ dt2 : Nat → Nat → Int, w2 = (SH, dt2) ∧ InvC dt2 ∧ Fr [10, 11] dt dt2 ∧ ((r = some (.inl (-1)) ∧ (40 ≤ dt 10 3) ∧ (dt2 10 3 = dt 10 3)) ∨ (∃ v : Int, r = some (.inl v) ∧ (0 ≤ v ∧ v ≤ 40) ∧ (v = dt 10 3) ∧ (dt 10 3 < 40) ∧ (dt2 10 3 = dt 10 3 + 1)))) := by
  have hF : Fr [10, 11] dt dt := Fr_refl
  have r1 : 0 ≤ dt 10 3 ∧ dt 10 3 ≤ 40 := InvC_get hI 10 3 rfl rfl
  refine go_toq PM40 (k := 1) (pc' := 1) (L' := [some (.inr (.inr (some 10))), some (.inl a0), some (.inl a1), some (.inl a2), some (.inl a3), some (.inl a4), some (.inl a5)]) (st' := [.inr (.inr (some 10))]) (w' := (SH, dt)) rfl ?_
  refine go_callq PM40 PM38 (Q' := _) rfl rfl rfl rfl (sp_X2_isFull_10 L xs sio (d + 0) dt hI   ) ?_
  rintro _ _ ⟨rfl, h2⟩
  refine ⟨rfl, ?_⟩
  rcases h2 with ⟨rfl, h2⟩ | ⟨rfl, h2⟩
  · skip
    refine go_retq PM40 (k := 2) (r := some (.inl (-1))) (w1 := (SH, dt)) rfl ?_
    first | exact ⟨dt, rfl, hI, hF, (Or.inl ⟨rfl, ⟨by first | exact True.intro | with_reducible assumption | rfl | omega | trivial, by first | exact True.intro | with_reducible assumption | rfl | omega | trivial⟩⟩)⟩ | exact ⟨dt, rfl, hI, hF, (Or.inr ⟨_, rfl, ⟨by decide, by decide⟩, ⟨by first | exact True.intro | with_reducible assumption | rfl | omega | trivial, by first | exact True.intro | with_reducible assumption | rfl | omega | trivial, by first | exact True.intro | with_reducible assumption | rfl | omega | trivial⟩⟩)⟩
  · skip
    have r3 : 0 ≤ dt 10 3 ∧ dt 10 3 ≤ 40 := InvC_get hI 10 3 rfl rfl
    refine go_toq PM40 (k := 6) (pc' := 16) (L' := [some (.inr (.inr (some 10))), some (.inl a0), some (.inl a1), some (.inl a2), some (.inl a3), some (.inl a4), some (.inl a5)]) (st' := [.inl ((dt 10 3) + 1), .inr (.inr (some 10))]) (w' := (SH, dt)) rfl ?_
    have hI4 : InvC (u2 dt 10 3 ((dt 10 3) + 1)) := InvC_u2 hI (lo := 0) (hi := 40) rfl rfl rfl (by omega) (by omega)
    have hF5 : Fr [10, 11] dt (u2 dt 10 3 ((dt 10 3) + 1)) := Fr_u2 hF (by decide)
    have w6 : (u2 dt 10 3 ((dt 10 3) + 1)) 10 3 = (dt 10 3) + 1 := rfl
    refine go_smpq PM40 (L' := [some (.inr (.inr (some 10))), some (.inl a0), some (.inl a1), some (.inl a2), some (.inl a3), some (.inl a4), some (.inl a5)]) (st' := []) (w' := (SH, (u2 dt 10 3 ((dt 10 3) + 1)))) rfl rfl (s_pf rfl rfl rfl rfl (by first | exact bndp r3 (by decide) (by decide) | exact ⟨by omega, by omega⟩)) ?_
    refine go_toq PM40 (k := 3) (pc' := 22) (L' := [some (.inr (.inr (some 10))), some (.inl a0), some (.inl a1), some (.inl a2), some (.inl a3), some (.inl a4), some (.inl a5)]) (st' := [.inl a0, .inl 0, .inr (.inr (some 10))]) (w' := (SH, (u2 dt 10 3 ((dt 10 3) + 1)))) rfl ?_
    refine go_callq PM40 PM41 (Q' := _) rfl rfl rfl rfl (sp_X2_set_10 L xs sio (d + 0) (u2 dt 10 3 ((dt 10 3) + 1)) hI4  0 ⟨by decide, by decide⟩ a0 (by first | exact bnd h_a0 (by decide) (by decide) | exact ⟨by omega, by omega⟩) ) ?_
    rintro _ _ ⟨dt8, rfl, hI9, hF10, h7⟩
    refine ⟨rfl, ?_⟩
    have hF11 : Fr [10, 11] dt dt8 := Fr_tr hF5 hF10 (by decide)
    have w12 : dt8 10 3 = (u2 dt 10 3 ((dt 10 3) + 1)) 10 3 := hF10 10 (by decide) 3
    rcases h7 with ⟨rfl, h7⟩
    refine go_toq PM40 (k := 3) (pc' := 28) (L' := [some (.inr (.inr (some 10))), some (.inl a0), some (.inl a1), some (.inl a2), some (.inl a3), some (.inl a4), some (.inl a5)]) (st' := [.inl a1, .inl 1, .inr (.inr (some 10))]) (w' := (SH, dt8)) rfl ?_
    refine go_callq PM40 PM41 (Q' := _) rfl rfl rfl rfl (sp_X2_set_10 L xs sio (d + 0) dt8 hI9  1 ⟨by decide, by decide⟩ a1 (by first | exact bnd h_a1 (by decide) (by decide) | exact ⟨by omega, by omega⟩) ) ?_
    rintro _ _ ⟨dt14, rfl, hI15, hF16, h13⟩
    refine ⟨rfl, ?_⟩
    have hF17 : Fr [10, 11] dt dt14 := Fr_tr hF11 hF16 (by decide)
    have w18 : dt14 10 3 = dt8 10 3 := hF16 10 (by decide) 3
    rcases h13 with ⟨rfl, h13⟩
    refine go_toq PM40 (k := 3) (pc' := 34) (L' := [some (.inr (.inr (some 10))), some (.inl a0), some (.inl a1), some (.inl a2), some (.inl a3), some (.inl a4), some (.inl a5)]) (st' := [.inl a2, .inl 2, .inr (.inr (some 10))]) (w' := (SH, dt14)) rfl ?_
    refine go_callq PM40 PM41 (Q' := _) rfl rfl rfl rfl (sp_X2_set_10 L xs sio (d + 0) dt14 hI15  2 ⟨by decide, by decide⟩ a2 (by first | exact bnd h_a2 (by decide) (by decide) | exact ⟨by omega, by omega⟩) ) ?_
    rintro _ _ ⟨dt20, rfl, hI21, hF22, h19⟩
    refine ⟨rfl, ?_⟩
    have hF23 : Fr [10, 11] dt dt20 := Fr_tr hF17 hF22 (by decide)
    have w24 : dt20 10 3 = dt14 10 3 := hF22 10 (by decide) 3
    rcases h19 with ⟨rfl, h19⟩
    refine go_toq PM40 (k := 3) (pc' := 41) (L' := [some (.inr (.inr (some 10))), some (.inl a0), some (.inl a1), some (.inl a2), some (.inl a3), some (.inl a4), some (.inl a5)]) (st' := [.inl a3, .inl 3, .inr (.inr (some 10))]) (w' := (SH, dt20)) rfl ?_
    refine go_callq PM40 PM41 (Q' := _) rfl rfl rfl rfl (sp_X2_set_10 L xs sio (d + 0) dt20 hI21  3 ⟨by decide, by decide⟩ a3 (by first | exact bnd h_a3 (by decide) (by decide) | exact ⟨by omega, by omega⟩) ) ?_
    rintro _ _ ⟨dt26, rfl, hI27, hF28, h25⟩
    refine ⟨rfl, ?_⟩
    have hF29 : Fr [10, 11] dt dt26 := Fr_tr hF23 hF28 (by decide)
    have w30 : dt26 10 3 = dt20 10 3 := hF28 10 (by decide) 3
    rcases h25 with ⟨rfl, h25⟩
    refine go_toq PM40 (k := 3) (pc' := 48) (L' := [some (.inr (.inr (some 10))), some (.inl a0), some (.inl a1), some (.inl a2), some (.inl a3), some (.inl a4), some (.inl a5)]) (st' := [.inl a4, .inl 4, .inr (.inr (some 10))]) (w' := (SH, dt26)) rfl ?_
    refine go_callq PM40 PM41 (Q' := _) rfl rfl rfl rfl (sp_X2_set_10 L xs sio (d + 0) dt26 hI27  4 ⟨by decide, by decide⟩ a4 (by first | exact bnd h_a4 (by decide) (by decide) | exact ⟨by omega, by omega⟩) ) ?_
    rintro _ _ ⟨dt32, rfl, hI33, hF34, h31⟩
    refine ⟨rfl, ?_⟩
    have hF35 : Fr [10, 11] dt dt32 := Fr_tr hF29 hF34 (by decide)
    have w36 : dt32 10 3 = dt26 10 3 := hF34 10 (by decide) 3
    rcases h31 with ⟨rfl, h31⟩
    refine go_toq PM40 (k := 3) (pc' := 55) (L' := [some (.inr (.inr (some 10))), some (.inl a0), some (.inl a1), some (.inl a2), some (.inl a3), some (.inl a4), some (.inl a5)]) (st' := [.inl a5, .inl 5, .inr (.inr (some 10))]) (w' := (SH, dt32)) rfl ?_
    refine go_callq PM40 PM41 (Q' := _) rfl rfl rfl rfl (sp_X2_set_10 L xs sio (d + 0) dt32 hI33  5 ⟨by decide, by decide⟩ a5 (by first | exact bnd h_a5 (by decide) (by decide) | exact ⟨by omega, by omega⟩) ) ?_
    rintro _ _ ⟨dt38, rfl, hI39, hF40, h37⟩
    refine ⟨rfl, ?_⟩
    have hF41 : Fr [10, 11] dt dt38 := Fr_tr hF35 hF40 (by decide)
    have w42 : dt38 10 3 = dt32 10 3 := hF40 10 (by decide) 3
    rcases h37 with ⟨rfl, h37⟩
    have r43 : 0 ≤ dt38 10 3 ∧ dt38 10 3 ≤ 40 := InvC_get hI39 10 3 rfl rfl
    refine go_retq PM40 (k := 4) (r := some (.inl ((dt38 10 3) - 1))) (w1 := (SH, dt38)) rfl ?_
    exact ⟨dt38, rfl, hI39, hF41, (Or.inr ⟨_, rfl, ⟨by omega, by omega⟩, ⟨by first | exact True.intro | with_reducible assumption | rfl | omega | trivial, by first | exact True.intro | with_reducible assumption | rfl | omega | trivial, by first | exact True.intro | with_reducible assumption | rfl | omega | trivial⟩⟩)⟩
theorem sp_X2_has_12 (L : Nat) (xs : Nat → Int32) (sio : Option Nat) (d : Nat) (dt : Nat → Nat → Int) (hI : InvC dt)  (row : Int) (h_row : (-2147483648) ≤ row ∧ row ≤ 2147483647)  : GO (am_XX L xs sio) (d) 37 0 [some (.inr (.inr (some 12))), some (.inl row)] [] (SH, dt) (fun r w2 => w2 = (SH, dt) ∧ ((r = some (.inl 1) ∧ (0 ≤ row ∧ row < dt 12 3)) ∨ (r = some (.inl 0) ∧ (¬ (0 ≤ row ∧ row < dt 12 3))))) := by
  refine go_ifq PM37 (k := 1) (p1 := 16) (p2 := 4) (L' := [some (.inr (.inr (some 12))), some (.inl row)]) (st' := []) (w' := (SH, dt)) rfl (z_lt (a := row) (by first | exact bnd h_row (by decide) (by decide) | exact ⟨by fail, by fail⟩)) (fun c1 => ?_) (fun c1 => ?_)
  · skip
    refine go_retq PM37 (k := 1) (r := some (.inl 0)) (w1 := (SH, dt)) rfl ?_
    exact ⟨rfl, (Or.inr ⟨rfl, by first | exact True.intro | with_reducible assumption | rfl | omega | trivial⟩)⟩
  · skip
    have r2 : 0 ≤ dt 12 3 ∧ dt 12 3 ≤ 300 := InvC_get hI 12 3 rfl rfl
    refine go_ifq PM37 (k := 3) (p1 := 16) (p2 := 12) (L' := [some (.inr (.inr (some 12))), some (.inl row)]) (st' := []) (w' := (SH, dt)) rfl (c_ge (a := row) (b := dt 12 3) (by first | exact bnd h_row (by decide) (by decide) | exact ⟨by fail, by fail⟩) (by first | exact bnd r2 (by decide) (by decide) | exact ⟨by fail, by fail⟩)) (fun c3 => ?_) (fun c3 => ?_)
    · skip
      refine go_retq PM37 (k := 1) (r := some (.inl 0)) (w1 := (SH, dt)) rfl ?_
      exact ⟨rfl, (Or.inr ⟨rfl, by first | exact True.intro | with_reducible assumption | rfl | omega | trivial⟩)⟩
    · skip
      refine go_retq PM37 (k := 2) (r := some (.inl 1)) (w1 := (SH, dt)) rfl ?_
      exact ⟨rfl, (Or.inl ⟨rfl, by first | exact True.intro | with_reducible assumption | rfl | omega | trivial⟩)⟩
theorem sp_X2_isFull_12 (L : Nat) (xs : Nat → Int32) (sio : Option Nat) (d : Nat) (dt : Nat → Nat → Int) (hI : InvC dt)    : GO (am_XX L xs sio) (d) 38 0 [some (.inr (.inr (some 12)))] [] (SH, dt) (fun r w2 => w2 = (SH, dt) ∧ ((r = some (.inl 1) ∧ (300 ≤ dt 12 3)) ∨ (r = some (.inl 0) ∧ (¬ (300 ≤ dt 12 3))))) := by
  have r1 : 0 ≤ dt 12 3 ∧ dt 12 3 ≤ 300 := InvC_get hI 12 3 rfl rfl
  refine go_toq PM38 (k := 3) (pc' := 5) (L' := [some (.inr (.inr (some 12)))]) (st' := [.inr (.inr (some 12)), .inl (dt 12 3)]) (w' := (SH, dt)) rfl ?_
  refine go_smpq PM38 (L' := [some (.inr (.inr (some 12)))]) (st' := [.inl 300, .inl (dt 12 3)]) (w' := (SH, dt)) rfl rfl (s_gfc rfl rfl rfl (hI.2 12 0 rfl)) ?_
  refine go_ifq PM38 (k := 0) (p1 := 15) (p2 := 11) (L' := [some (.inr (.inr (some 12)))]) (st' := []) (w' := (SH, dt)) rfl (c_lt (a := dt 12 3) (b := 300) (by first | exact bnd r1 (by decide) (by decide) | exact ⟨by fail, by fail⟩) ⟨by decide, by decide⟩) (fun c2 => ?_) (fun c2 => ?_)
  · skip
    refine go_retq PM38 (k := 1) (r := some (.inl 0)) (w1 := (SH, dt)) rfl ?_
    exact ⟨rfl, (Or.inr ⟨rfl, by first | exact True.intro | with_reducible assumption | rfl | omega | trivial⟩)⟩
  · skip
    refine go_retq PM38 (k := 2) (r := some (.inl 1)) (w1 := (SH, dt)) rfl ?_
    exact ⟨rfl, (Or.inl ⟨rfl, by first | exact True.intro | with_reducible assumption | rfl | omega | trivial⟩)⟩
theorem sp_X2_at_12 (L : Nat) (xs : Nat → Int32) (sio : Option Nat) (d : Nat) (dt : Nat → Nat → Int) (hI : InvC dt)  (row : Int) (h_row : (-2147483648) ≤ row ∧ row ≤ 2147483647) (column : Int) (h_column : (-2147483648) ≤ column ∧ column ≤ 2147483647)  : GO (am_XX L xs sio) (d + 1) 39 0 [some (.inr (.inr (some 12))), some (.inl row), some (.inl column)] [] (SH, dt) (fun r w2 => w2 = (SH, dt) ∧ ((∃ v : Int, r = some (.inl v) ∧ ((-2147483648) ≤ v ∧ v ≤ 2147483647) ∧ True))) := by
  have r1 : 0 ≤ dt 12 3 ∧ dt 12 3 ≤ 300 := InvC_get hI 12 3 rfl rfl
  refine go_toq PM39 (k := 2) (pc' := 2) (L' := [some (.inr (.inr (some 12))), some (.inl row), some (.inl column)]) (st' := [.inl row, .inr (.inr (some 12))]) (w' := (SH, dt)) rfl ?_
  refine go_callq PM39 PM37 (Q' := _) rfl rfl rfl rfl (sp_X2_has_12 L xs sio (d + 0) dt hI  row (by first | exact h_row | exact bnd h_row (by decide) (by decide) | exact ⟨by fail, by fail⟩) ) ?_
  rintro _ _ ⟨rfl, h2⟩
  refine ⟨rfl, ?_⟩
  rcases h2 with ⟨rfl, h2⟩ | ⟨rfl, h2⟩
  · skip
    refine go_ifq PM39 (k := 2) (p1 := 36) (p2 := 12) (L' := [some (.inr (.inr (some 12))), some (.inl row), some (.inl column)]) (st' := []) (w' := (SH, dt)) rfl (z_lt (a := column) (by first | exact bnd h_column (by decide) (by decide) | exact ⟨by fail, by fail⟩)) (fun c3 => ?_) (fun c3 => ?_)
    · skip
      refine go_retq PM39 (k := 1) (r := some (.inl (-1))) (w1 := (SH, dt)) rfl ?_
      exact ⟨rfl, ⟨_, rfl, ⟨by decide, by decide⟩, trivial⟩⟩
    · skip
      refine go_toq PM39 (k := 2) (pc' := 14) (L' := [some (.inr (.inr (some 12))), some (.inl row), some (.inl column)]) (st' := [.inr (.inr (some 12)), .inl column]) (w' := (SH, dt)) rfl ?_
      refine go_smpq PM39 (L' := [some (.inr (.inr (some 12))), some (.inl row), some (.inl column)]) (st' := [.inl 6, .inl column]) (w' := (SH, dt)) rfl rfl (s_gfc rfl rfl rfl (hI.2 12 1 rfl)) ?_
      refine go_ifq PM39 (k := 0) (p1 := 36) (p2 := 20) (L' := [some (.inr (.inr (some 12))), some (.inl row), some (.inl column)]) (st' := []) (w' := (SH, dt)) rfl (c_ge (a := column) (b := 6) (by first | exact bnd h_column (by decide) (by decide) | exact ⟨by fail, by fail⟩) ⟨by decide, by decide⟩) (fun c4 => ?_) (fun c4 => ?_)
      · skip
        refine go_retq PM39 (k := 1) (r := some (.inl (-1))) (w1 := (SH, dt)) rfl ?_
        exact ⟨rfl, ⟨_, rfl, ⟨by decide, by decide⟩, trivial⟩⟩
      · skip
        refine go_toq PM39 (k := 4) (pc' := 26) (L' := [some (.inr (.inr (some 12))), some (.inl row), some (.inl column)]) (st' := [.inr (.inr (some 12)), .inl row, .inr (.inr (some 13))]) (w' := (SH, dt)) rfl ?_
        refine go_smpq PM39 (L' := [some (.inr (.inr (some 12))), some (.inl row), some (.inl column)]) (st' := [.inl 6, .inl row, .inr (.inr (some 13))]) (w' := (SH, dt)) rfl rfl (s_gfc rfl rfl rfl (hI.2 12 1 rfl)) ?_
        refine go_toq PM39 (k := 3) (pc' := 32) (L' := [some (.inr (.inr (some 12))), some (.inl row), some (.inl column)]) (st' := [.inl ((row * 6) + column), .inr (.inr (some 13))]) (w' := (SH, dt)) rfl ?_
        have r5 : (-2147483648) ≤ dt 13 (((row * 6) + column).toNat) ∧ dt 13 (((row * 6) + column).toNat) ≤ 2147483647 := InvC_get hI 13 (((row * 6) + column).toNat) rfl rfl
        refine go_smpq PM39 (L' := [some (.inr (.inr (some 12))), some (.inl row), some (.inl column)]) (st' := [.inl (dt 13 (((row * 6) + column).toNat))]) (w' := (SH, dt)) rfl rfl (s_iald (n := 1800) (f := dt 13) rfl ⟨by omega, by omega⟩) ?_
        refine go_retq PM39 (k := 1) (r := some (.inl (dt 13 (((row * 6) + column).toNat)))) (w1 := (SH, dt)) rfl ?_
        exact ⟨rfl, ⟨_, rfl, (by first | exact bnd r5 (by decide) (by decide) | exact ⟨by fail, by fail⟩), trivial⟩⟩
  · skip
    refine go_retq PM39 (k := 2) (r := some (.inl (-1))) (w1 := (SH, dt)) rfl ?_
    exact ⟨rfl, ⟨_, rfl, ⟨by decide, by decide⟩, trivial⟩⟩
theorem sp_X2_set_12 (L : Nat) (xs : Nat → Int32) (sio : Option Nat) (d : Nat) (dt : Nat → Nat → Int) (hI : InvC dt)  (column : Int) (h_column : 0 ≤ column ∧ column ≤ 1000) (value : Int) (h_value : (-2147483648) ≤ value ∧ value ≤ 2147483647)  : GO (am_XX L xs sio) (d) 41 0 [some (.inr (.inr (some 12))), some (.inl column), some (.inl value)] [] (SH, dt) (fun r w2 => ∃ dt2 : Nat → Nat → Int, w2 = (SH, dt2) ∧ InvC dt2 ∧ Fr [13] dt dt2 ∧ ((r = none ∧ True))) := by
  have hF : Fr [13] dt dt := Fr_refl
  have r1 : 0 ≤ dt 12 3 ∧ dt 12 3 ≤ 300 := InvC_get hI 12 3 rfl rfl
  have r2 : 0 ≤ dt 12 3 ∧ dt 12 3 ≤ 300 := InvC_get hI 12 3 rfl rfl
  refine go_ifq PM41 (k := 2) (p1 := 34) (p2 := 7) (L' := [some (.inr (.inr (some 12))), some (.inl column), some (.inl value)]) (st' := []) (w' := (SH, dt)) rfl (z_le (a := dt 12 3) (by first | exact bnd r2 (by decide) (by decide) | exact ⟨by fail, by fail⟩)) (fun c3 => ?_) (fun c3 => ?_)
  · skip
    refine go_retq PM41 (k := 0) (r := none) (w1 := (SH, dt)) rfl ?_
    exact ⟨dt, rfl, hI, hF, ⟨rfl, trivial⟩⟩
  · skip
    refine go_toq PM41 (k := 2) (pc' := 9) (L' := [some (.inr (.inr (some 12))), some (.inl column), some (.inl value)]) (st' := [.inr (.inr (some 12)), .inl column]) (w' := (SH, dt)) rfl ?_
    refine go_smpq PM41 (L' := [some (.inr (.inr (some 12))), some (.inl column), some (.inl value)]) (st' := [.inl 6, .inl column]) (w' := (SH, dt)) rfl rfl (s_gfc rfl rfl rfl (hI.2 12 1 rfl)) ?_
    refine go_ifq PM41 (k := 0) (p1 := 34) (p2 := 15) (L' := [some (.inr (.inr (some 12))), some (.inl column), some (.inl value)]) (st' := []) (w' := (SH, dt)) rfl (c_ge (a := column) (b := 6) (by first | exact bnd h_column (by decide) (by decide) | exact ⟨by fail, by fail⟩) ⟨by decide, by decide⟩) (fun c4 => ?_) (fun c4 => ?_)
    · skip
      refine go_retq PM41 (k := 0) (r := none) (w1 := (SH, dt)) rfl ?_
      exact ⟨dt, rfl, hI, hF, ⟨rfl, trivial⟩⟩
    · skip
      have r5 : 0 ≤ dt 12 3 ∧ dt 12 3 ≤ 300 := InvC_get hI 12 3 rfl rfl
      refine go_toq PM41 (k := 7) (pc' := 26) (L' := [some (.inr (.inr (some 12))), some (.inl column), some (.inl value)]) (st' := [.inr (.inr (some 12)), .inl ((dt 12 3) - 1), .inr (.inr (some 13))]) (w' := (SH, dt)) rfl ?_
      refine go_smpq PM41 (L' := [some (.inr (.inr (some 12))), some (.inl column), some (.inl value)]) (st' := [.inl 6, .inl ((dt 12 3) - 1), .inr (.inr (some 13))]) (w' := (SH, dt)) rfl rfl (s_gfc rfl rfl rfl (hI.2 12 1 rfl)) ?_
      refine go_toq PM41 (k := 4) (pc' := 33) (L' := [some (.inr (.inr (some 12))), some (.inl column), some (.inl value)]) (st' := [.inl value, .inl ((((dt 12 3) - 1) * 6) + column), .inr (.inr (some 13))]) (w' := (SH, dt)) rfl ?_
      have hI6 : InvC (u2 dt 13 (((((dt 12 3) - 1) * 6) + column).toNat) value) := InvC_u2 hI (lo := -2147483648) (hi := 2147483647) rfl rfl rfl (by first | exact bnd1 h_value (by decide) | fail) (by first | exact bnd2 h_value (by decide) | fail)
      have hF7 : Fr [13] dt (u2 dt 13 (((((dt 12 3) - 1) * 6) + column).toNat) value) := Fr_u2 hF (by decide)
      refine go_smpq PM41 (L' := [some (.inr (.inr (some 12))), some (.inl column), some (.inl value)]) (st' := []) (w' := (SH, (u2 dt 13 (((((dt 12 3) - 1) * 6) + column).toNat) value))) rfl rfl (s_iast (n := 1800) rfl ⟨by omega, by omega⟩ (by first | exact bnd h_value (by decide) (by decide) | exact ⟨by fail, by fail⟩)) ?_
      refine go_retq PM41 (k := 0) (r := none) (w1 := (SH, (u2 dt 13 (((((dt 12 3) - 1) * 6) + column).toNat) value))) rfl ?_
      exact ⟨(u2 dt 13 (((((dt 12 3) - 1) * 6) + column).toNat) value), rfl, hI6, hF7, ⟨rfl, trivial⟩⟩
theorem sp_X2_add_12 (L : Nat) (xs : Nat → Int32) (sio : Option Nat) (d : Nat) (dt : Nat → Nat → Int) (hI : InvC dt)  (a0 : Int) (h_a0 : (-2147483648) ≤ a0 ∧ a0 ≤ 2147483647) (a1 : Int) (h_a1 : (-2147483648) ≤ a1 ∧ a1 ≤ 2147483647) (a2 : Int) (h_a2 : (-2147483648) ≤ a2 ∧ a2 ≤ 2147483647) (a3 : Int) (h_a3 : (-2147483648) ≤ a3 ∧ a3 ≤ 2147483647) (a4 : Int) (h_a4 : (-2147483648) ≤ a4 ∧ a4 ≤ 2147483647) (a5 : Int) (h_a5 : (-2147483648) ≤ a5 ∧ a5 ≤ 2147483647)  : GO (am_XX L xs sio) (d + 1) 40 0 [some (.inr (.inr (some 12))), some (.inl a0), some (.inl a1), some (.inl a2), some (.inl a3), some (.inl a4), some (.inl a5)] [] (SH, dt) (fun r w2 => ∃ dt2 : Nat → Nat → Int, w2 = (SH, dt2) ∧ InvC dt2 ∧ Fr [12, 13] dt dt2 ∧ ((r = some (.inl (-1)) ∧ (300 ≤ dt 12 3) ∧ (dt2 12 3 = dt 12 3)) ∨ (∃ v : Int, r = some (.inl v) ∧ (0 ≤ v ∧ v ≤ 300) ∧ (v = dt 12 3) ∧ (dt 12 3 < 300) ∧ (dt2 12 3 = dt 12 3 + 1)))) := by
  have hF : Fr [12, 13] dt dt := Fr_refl
  have r1 : 0 ≤ dt 12 3 ∧ dt 12 3 ≤ 300 := InvC_get hI 12 3 rfl rfl
  refine go_toq PM40 (k := 1) (pc' := 1) (L' := [some (.inr (.inr (some 12))), some (.inl a0), some (.inl a1), some (.inl a2), some (.inl a3), some (.inl a4), some (.inl a5)]) (st' := [.inr (.inr (some 12))]) (w' := (SH, dt)) rfl ?_
  refine go_callq PM40 PM38 (Q' := _) rfl rfl rfl rfl (sp_X2_isFull_12 L xs sio (d + 0) dt hI   ) ?_
  rintro _ _ ⟨rfl, h2⟩
  refine ⟨rfl, ?_⟩
  rcases h2 with ⟨rfl, h2⟩ | ⟨rfl, h2⟩
  · skip
    refine go_retq PM40 (k := 2) (r := some (.inl (-1))) (w1 := (SH, dt)) rfl ?_
    first | exact ⟨dt, rfl, hI, hF, (Or.inl ⟨rfl, ⟨by first | exact True.intro | with_reducible assumption | rfl | fail | trivial, by first | exact True.intro | with_reducible assumption | rfl | fail | trivial⟩⟩)⟩ | exact ⟨dt, rfl, hI, hF, (Or.inr ⟨_, rfl, ⟨by decide, by decide⟩, ⟨by first | exact True.intro | with_reducible assumption | rfl | fail | trivial, by first | exact True.intro | with_reducible assumption | rfl | fail | trivial, by first | exact True.intro | with_reducible assumption | rfl | fail | trivial⟩⟩)⟩
  · skip
    have r3 : 0 ≤ dt 12 3 ∧ dt 12 3 ≤ 300 := InvC_get hI 12 3 rfl rfl
    refine go_toq PM40 (k := 6) (pc' := 16) (L' := [some (.inr (.inr (some 12))), some (.inl a0), some (.inl a1), some (.inl a2), some (.inl a3), some (.inl a4), some (.inl a5)]) (st' := [.inl ((dt 12 3) + 1), .inr (.inr (some 12))]) (w' := (SH, dt)) rfl ?_
    have hI4 : InvC (u2 dt 12 3 ((dt 12 3) + 1)) := InvC_u2 hI (lo := 0) (hi := 300) rfl rfl rfl (by omega) (by omega)
    have hF5 : Fr [12, 13] dt (u2 dt 12 3 ((dt 12 3) + 1)) := Fr_u2 hF (by decide)
    have w6 : (u2 dt 12 3 ((dt 12 3) + 1)) 12 3 = (dt 12 3) + 1 := rfl
    refine go_smpq PM40 (L' := [some (.inr (.inr (some 12))), some (.inl a0), some (.inl a1), some (.inl a2), some (.inl a3), some (.inl a4), some (.inl a5)]) (st' := []) (w' := (SH, (u2 dt 12 3 ((dt 12 3) + 1)))) rfl rfl (s_pf rfl rfl rfl rfl (by first | exact bndp r3 (by decide) (by decide) | exact ⟨by fail, by fail⟩)) ?_
    refine go_toq PM40 (k := 3) (pc' := 22) (L' := [some (.inr (.inr (some 12))), some (.inl a0), some (.inl a1), some (.inl a2), some (.inl a3), some (.inl a4), some (.inl a5)]) (st' := [.inl a0, .inl 0, .inr (.inr (some 12))]) (w' := (SH, (u2 dt 12 3 ((dt 12 3) + 1)))) rfl ?_
    refine go_callq PM40 PM41 (Q' := _) rfl rfl rfl rfl (sp_X2_set_12 L xs sio (d + 0) (u2 dt 12 3 ((dt 12 3) + 1)) hI4  0 ⟨by decide, by decide⟩ a0 (by first | exact bnd h_a0 (by decide) (by decide) | exact ⟨by fail, by fail⟩) ) ?_
    rintro _ _ ⟨dt8, rfl, hI9, hF10, h7⟩
    refine ⟨rfl, ?_⟩
    have hF11 : Fr [12, 13] dt dt8 := Fr_tr hF5 hF10 (by decide)
    have w12 : dt8 12 3 = (u2 dt 12 3 ((dt 12 3) + 1)) 12 3 := hF10 12 (by decide) 3
    rcases h7 with ⟨rfl, h7⟩
    refine go_toq PM40 (k := 3) (pc' := 28) (L' := [some (.inr (.inr (some 12))), some (.inl a0), some (.inl a1), some (.inl a2), some (.inl a3), some (.inl a4), some (.inl a5)]) (st' := [.inl a1, .inl 1, .inr (.inr (some 12))]) (w' := (SH, dt8)) rfl ?_
    refine go_callq PM40 PM41 (Q' := _) rfl rfl rfl rfl (sp_X2_set_12 L xs sio (d + 0) dt8 hI9  1 ⟨by decide, by decide⟩ a1 (by first | exact bnd h_a1 (by decide) (by decide) | exact ⟨by fail, by fail⟩) ) ?_
    rintro _ _ ⟨dt14, rfl, hI15, hF16, h13⟩
    refine ⟨rfl, ?_⟩
    have hF17 : Fr [12, 13] dt dt14 := Fr_tr hF11 hF16 (by decide)
    have w18 : dt14 12 3 = dt8 12 3 := hF16 12 (by decide) 3
    rcases h13 with ⟨rfl, h13⟩
    refine go_toq PM40 (k := 3) (pc' := 34) (L' := [some (.inr (.inr (some 12))), some (.inl a0), some (.inl a1), some (.inl a2), some (.inl a3), some (.inl a4), some (.inl a5)]) (st' := [.inl a2, .inl 2, .inr (.inr (some 12))]) (w' := (SH, dt14)) rfl ?_
    refine go_callq PM40 PM41 (Q' := _) rfl rfl rfl rfl (sp_X2_set_12 L xs sio (d + 0) dt14 hI15  2 ⟨by decide, by decide⟩ a2 (by first | exact bnd h_a2 (by decide) (by decide) | exact ⟨by fail, by fail⟩) ) ?_
    rintro _ _ ⟨dt20, rfl, hI21, hF22, h19⟩
    refine ⟨rfl, ?_⟩
    have hF23 : Fr [12, 13] dt dt20 := Fr_tr hF17 hF22 (by decide)
    have w24 : dt20 12 3 = dt14 12 3 := hF22 12 (by decide) 3
    rcases h19 with ⟨rfl, h19⟩
    refine go_toq PM40 (k := 3) (pc' := 41) (L' := [some (.inr (.inr (some 12))), some (.inl a0), some (.inl a1), some (.inl a2), some (.inl a3), some (.inl a4), some (.inl a5)]) (st' := [.inl a3, .inl 3, .inr (.inr (some 12))]) (w' := (SH, dt20)) rfl ?_
    refine go_callq PM40 PM41 (Q' := _) rfl rfl rfl rfl (sp_X2_set_12 L xs sio (d + 0) dt20 hI21  3 ⟨by decide, by decide⟩ a3 (by first | exact bnd h_a3 (by decide) (by decide) | exact ⟨by fail, by fail⟩) ) ?_
    rintro _ _ ⟨dt26, rfl, hI27, hF28, h25⟩
    refine ⟨rfl, ?_⟩
    have hF29 : Fr [12, 13] dt dt26 := Fr_tr hF23 hF28 (by decide)
    have w30 : dt26 12 3 = dt20 12 3 := hF28 12 (by decide) 3
    rcases h25 with ⟨rfl, h25⟩
    refine go_toq PM40 (k := 3) (pc' := 48) (L' := [some (.inr (.inr (some 12))), some (.inl a0), some (.inl a1), some (.inl a2), some (.inl a3), some (.inl a4), some (.inl a5)]) (st' := [.inl a4, .inl 4, .inr (.inr (some 12))]) (w' := (SH, dt26)) rfl ?_
    refine go_callq PM40 PM41 (Q' := _) rfl rfl rfl rfl (sp_X2_set_12 L xs sio (d + 0) dt26 hI27  4 ⟨by decide, by decide⟩ a4 (by first | exact bnd h_a4 (by decide) (by decide) | exact ⟨by fail, by fail⟩) ) ?_
    rintro _ _ ⟨dt32, rfl, hI33, hF34, h31⟩
    refine ⟨rfl, ?_⟩
    have hF35 : Fr [12, 13] dt dt32 := Fr_tr hF29 hF34 (by decide)
    have w36 : dt32 12 3 = dt26 12 3 := hF34 12 (by decide) 3
    rcases h31 with ⟨rfl, h31⟩
    refine go_toq PM40 (k := 3) (pc' := 55) (L' := [some (.inr (.inr (some 12))), some (.inl a0), some (.inl a1), some (.inl a2), some (.inl a3), some (.inl a4), some (.inl a5)]) (st' := [.inl a5, .inl 5, .inr (.inr (some 12))]) (w' := (SH, dt32)) rfl ?_
    refine go_callq PM40 PM41 (Q' := _) rfl rfl rfl rfl (sp_X2_set_12 L xs sio (d + 0) dt32 hI33  5 ⟨by decide, by decide⟩ a5 (by first | exact bnd h_a5 (by decide) (by decide) | exact ⟨by fail, by fail⟩) ) ?_
    rintro _ _ ⟨dt38, rfl, hI39, hF40, h37⟩
    refine ⟨rfl, ?_⟩
    have hF41 : Fr [12, 13] dt dt38 := Fr_tr hF35 hF40 (by decide)
    have w42 : dt38 12 3 = dt32 12 3 := hF40 12 (by decide) 3
    rcases h37 with ⟨rfl, h37⟩
    have r43 : 0 ≤ dt38 12 3 ∧ dt38 12 3 ≤ 300 := InvC_get hI39 12 3 rfl rfl
    refine go_retq PM40 (k := 4) (r := some (.inl ((dt38 12 3) - 1))) (w1 := (SH, dt38)) rfl ?_
    exact ⟨dt38, rfl, hI39, hF41, (Or.inr ⟨_, rfl, ⟨by omega, by omega⟩, ⟨by first | exact True.intro | with_reducible assumption | rfl | omega | trivial, by first | exact True.intro | with_reducible assumption | rfl | omega | trivial, by first | exact True.intro | with_reducible assumption | rfl | omega | trivial⟩⟩)⟩
theorem sp_X2_has_14 (L : Nat) (xs : Nat → Int32) (sio : Option Nat) (d : Nat) (dt : Nat → Nat → Int) (hI : InvC dt)  (row : Int) (h_row : (-2147483648) ≤ row ∧ row ≤ 2147483647)  : GO (am_XX L xs sio) (d) 37 0 [some (.inr (.inr (some 14))), some (.inl row)] [] (SH, dt) (fun r w2 => w2 = (SH, dt) ∧ ((r = some (.inl 1) ∧ (0 ≤ row ∧ row < dt 14 3)) ∨ (r = some (.inl 0) ∧ (¬ (0 ≤ row ∧ row < dt 14 3))))) := by
  refine go_ifq PM37 (k := 1) (p1 := 16) (p2 := 4) (L' := [some (.inr (.inr (some 14))), some (.inl row)]) (st' := []) (w' := (SH, dt)) rfl (z_lt (a := row) (by first | exact bnd h_row (by decide) (by decide) | exact ⟨by fail, by fail⟩)) (fun c1 => ?_) (fun c1 => ?_)
  · skip
    refine go_retq PM37 (k := 1) (r := some (.inl 0)) (w1 := (SH, dt)) rfl ?_
    exact ⟨rfl, (Or.inr ⟨rfl, by first | exact True.intro | with_reducible assumption | rfl | omega | trivial⟩)⟩
  · skip
    have r2 : 0 ≤ dt 14 3 ∧ dt 14 3 ≤ 40 := InvC_get hI 14 3 rfl rfl
    refine go_ifq PM37 (k := 3) (p1 := 16) (p2 := 12) (L' := [some (.inr (.inr (some 14))), some (.inl row)]) (st' := []) (w' := (SH, dt)) rfl (c_ge (a := row) (b := dt 14 3) (by first | exact bnd h_row (by decide) (by decide) | exact ⟨by fail, by fail⟩) (by first | exact bnd r2 (by decide) (by decide) | exact ⟨by fail, by fail⟩)) (fun c3 => ?_) (fun c3 => ?_)
    · skip
      refine go_retq PM37 (k := 1) (r := some (.inl 0)) (w1 := (SH, dt)) rfl ?_
      exact ⟨rfl, (Or.inr ⟨rfl, by first | exact True.intro | with_reducible assumption | rfl | omega | trivial⟩)⟩
    · skip
      refine go_retq PM37 (k := 2) (r := some (.inl 1)) (w1 := (SH, dt)) rfl ?_
      exact ⟨rfl, (Or.inl ⟨rfl, by first | exact True.intro | with_reducible assumption | rfl | omega | trivial⟩)⟩
theorem sp_X2_isFull_14 (L : Nat) (xs : Nat → Int32) (sio : Option Nat) (d : Nat) (dt : Nat → Nat → Int) (hI : InvC dt)    : GO (am_XX L xs sio) (d) 38 0 [some (.inr (.inr (some 14)))] [] (SH, dt) (fun r w2 => w2 = (SH, dt) ∧ ((r = some (.inl 1) ∧ (40 ≤ dt 14 3)) ∨ (r = some (.inl 0) ∧ (¬ (40 ≤ dt 14 3))))) := by
  have r1 : 0 ≤ dt 14 3 ∧ dt 14 3 ≤ 40 := InvC_get hI 14 3 rfl rfl
  refine go_toq PM38 (k := 3) (pc' := 5) (L' := [some (.inr (.inr (some 14)))]) (st' := [.inr (.inr (some 14)), .inl (dt 14 3)]) (w' := (SH, dt)) rfl ?_
  refine go_smpq PM38 (L' := [some (.inr (.inr (some 14)))]) (st' := [.inl 40, .inl (dt 14 3)]) (w' := (SH, dt)) rfl rfl (s_gfc rfl rfl rfl (hI.2 14 0 rfl)) ?_
  refine go_ifq PM38 (k := 0) (p1 := 15) (p2 := 11) (L' := [some (.inr (.inr (some 14)))]) (st' := []) (w' := (SH, dt)) rfl (c_lt (a := dt 14 3) (b := 40) (by first | exact bnd r1 (by decide) (by decide) | exact ⟨by fail, by fail⟩) ⟨by decide, by decide⟩) (fun c2 => ?_) (fun c2 => ?_)
  · skip
    refine go_retq PM38 (k := 1) (r := some (.inl 0)) (w1 := (SH, dt)) rfl ?_
    exact ⟨rfl, (Or.inr ⟨rfl, by first | exact True.intro | with_reducible assumption | rfl | omega | trivial⟩)⟩
  · skip
    refine go_retq PM38 (k := 2) (r := some (.inl 1)) (w1 := (SH, dt)) rfl ?_
    exact ⟨rfl, (Or.inl ⟨rfl, by first | exact True.intro | with_reducible assumption | rfl | omega | trivial⟩)⟩
theorem sp_X2_at_14 (L : Nat) (xs : Nat → Int32) (sio : Option Nat) (d : Nat) (dt : Nat → Nat → Int) (hI : InvC dt)  (row : Int) (h_row : (-2147483648) ≤ row ∧ row ≤ 2147483647) (column : Int) (h_column : (-2147483648) ≤ column ∧ column ≤ 2147483647)  : GO (am_XX L xs sio) (d + 1) 39 0 [some (.inr (.inr (some 14))), some (.inl row), some (.inl column)] [] (SH, dt) (fun r w2 => w2 = (SH, dt) ∧ ((∃ v : Int, r = some (.inl v) ∧ ((-2147483648) ≤ v ∧ v ≤ 2147483647) ∧ True))) := by
  have r1 : 0 ≤ dt 14 3 ∧ dt 14 3 ≤ 40 := InvC_get hI 14 3 rfl rfl
  refine go_toq PM39 (k := 2) (pc' := 2) (L' := [some (.inr (.inr (some 14))), some (.inl row), some (.inl column)]) (st' := [.inl row, .inr (.inr (some 14))]) (w' := (SH, dt)) rfl ?_
  refine go_callq PM39 PM37 (Q' := _) rfl rfl rfl rfl (sp_X2_has_14 L xs sio (d + 0) dt hI  row (by first | exact h_row | exact bnd h_row (by decide) (by decide) | exact ⟨by fail, by fail⟩) ) ?_
  rintro _ _ ⟨rfl, h2⟩
  refine ⟨rfl, ?_⟩
  rcases h2 with ⟨rfl, h2⟩ | ⟨rfl, h2⟩
  · skip
    refine go_ifq PM39 (k := 2) (p1 := 36) (p2 := 12) (L' := [some (.inr (.inr (some 14))), some (.inl row), some (.inl column)]) (st' := []) (w' := (SH, dt)) rfl (z_lt (a := column) (by first | exact bnd h_column (by decide) (by decide) | exact ⟨by fail, by fail⟩)) (fun c3 => ?_) (fun c3 => ?_)
    · skip
      refine go_retq PM39 (k := 1) (r := some (.inl (-1))) (w1 := (SH, dt)) rfl ?_
      exact ⟨rfl, ⟨_, rfl, ⟨by decide, by decide⟩, trivial⟩⟩
    · skip
      refine go_toq PM39 (k := 2) (pc' := 14) (L' := [some (.inr (.inr (some 14))), some (.inl row), some (.inl column)]) (st' := [.inr (.inr (some 14)), .inl column]) (w' := (SH, dt)) rfl ?_
      refine go_smpq PM39 (L' := [some (.inr (.inr (some 14))), some (.inl row), some (.inl column)]) (st' := [.inl 2, .inl column]) (w' := (SH, dt)) rfl rfl (s_gfc rfl rfl rfl (hI.2 14 1 rfl)) ?_
      refine go_ifq PM39 (k := 0) (p1 := 36) (p2 := 20) (L' := [some (.inr (.inr (some 14))), some (.inl row), some (.inl column)]) (st' := []) (w' := (SH, dt)) rfl (c_ge (a := column) (b := 2) (by first | exact bnd h_column (by decide) (by decide) | exact ⟨by fail, by fail⟩) ⟨by decide, by decide⟩) (fun c4 => ?_) (fun c4 => ?_)
      · skip
        refine go_retq PM39 (k := 1) (r := some (.inl (-1))) (w1 := (SH, dt)) rfl ?_
        exact ⟨rfl, ⟨_, rfl, ⟨by decide, by decide⟩, trivial⟩⟩
      · skip
        refine go_toq PM39 (k := 4) (pc' := 26) (L' := [some (.inr (.inr (some 14))), some (.inl row), some (.inl column)]) (st' := [.inr (.inr (some 14)), .inl row, .inr (.inr (some 15))]) (w' := (SH, dt)) rfl ?_
        refine go_smpq PM39 (L' := [some (.inr (.inr (some 14))), some (.inl row), some (.inl column)]) (st' := [.inl 2, .inl row, .inr (.inr (some 15))]) (w' := (SH, dt)) rfl rfl (s_gfc rfl rfl rfl (hI.2 14 1 rfl)) ?_
        refine go_toq PM39 (k := 3) (pc' := 32) (L' := [some (.inr (.inr (some 14))), some (.inl row), some (.inl column)]) (st' := [.inl ((row * 2) + column), .inr (.inr (some 15))]) (w' := (SH, dt)) rfl ?_
        have r5 : (-2147483648) ≤ dt 15 (((row * 2) + column).toNat) ∧ dt 15 (((row * 2) + column).toNat) ≤ 2147483647 := InvC_get hI 15 (((row * 2) + column).toNat) rfl rfl
        refine go_smpq PM39 (L' := [some (.inr (.inr (some 14))), some (.inl row), some (.inl column)]) (st' := [.inl (dt 15 (((row * 2) + column).toNat))]) (w' := (SH, dt)) rfl rfl (s_iald (n := 80) (f := dt 15) rfl ⟨by omega, by omega⟩) ?_
        refine go_retq PM39 (k := 1) (r := some (.inl (dt 15 (((row * 2) + column).toNat)))) (w1 := (SH, dt)) rfl ?_
        exact ⟨rfl, ⟨_, rfl, (by first | exact bnd r5 (by decide) (by decide) | exact ⟨by fail, by fail⟩), trivial⟩⟩
  · skip
    refine go_retq PM39 (k := 2) (r := some (.inl (-1))) (w1 := (SH, dt)) rfl ?_
    exact ⟨rfl, ⟨_, rfl, ⟨by decide, by decide⟩, trivial⟩⟩
theorem sp_X2_set_14 (L : Nat) (xs : Nat → Int32) (sio : Option Nat) (d : Nat) (dt : Nat → Nat → Int) (hI : InvC dt)  (column : Int) (h_column : 0 ≤ column ∧ column ≤ 1000) (value : Int) (h_value : (-2147483648) ≤ value ∧ value ≤ 2147483647)  : GO (am_XX L xs sio) (d) 41 0 [some (.inr (.inr (some 14))), some (.inl column), some (.inl value)] [] (SH, dt) (fun r w2 => ∃ dt2 : Nat → Nat → Int, w2 = (SH, dt2) ∧ InvC dt2 ∧ Fr [15] dt dt2 ∧ ((r = none ∧ True))) := by
  have hF : Fr [15] dt dt := Fr_refl
  have r1 : 0 ≤ dt 14 3 ∧ dt 14 3 ≤ 40 := InvC_get hI 14 3 rfl rfl
  have r2 : 0 ≤ dt 14 3 ∧ dt 14 3 ≤ 40 := InvC_get hI 14 3 rfl rfl
  refine go_ifq PM41 (k := 2) (p1 := 34) (p2 := 7) (L' := [some (.inr (.inr (some 14))), some (.inl column), some (.inl value)]) (st' := []) (w' := (SH, dt)) rfl (z_le (a := dt 14 3) (by first | exact bnd r2 (by decide) (by decide) | exact ⟨by fail, by fail⟩)) (fun c3 => ?_) (fun c3 => ?_)
  · skip
    refine go_retq PM41 (k := 0) (r := none) (w1 := (SH, dt)) rfl ?_
    exact ⟨dt, rfl, hI, hF, ⟨rfl, trivial⟩⟩
  · skip
    refine go_toq PM41 (k := 2) (pc' := 9) (L' := [some (.inr (.inr (some 14))), some (.inl column), some (.inl value)]) (st' := [.inr (.inr (some 14)), .inl column]) (w' := (SH, dt)) rfl ?_
    refine go_smpq PM41 (L' := [some (.inr (.inr (some 14))), some (.inl column), some (.inl value)]) (st' := [.inl 2, .inl column]) (w' := (SH, dt)) rfl rfl (s_gfc rfl rfl rfl (hI.2 14 1 rfl)) ?_
    refine go_ifq PM41 (k := 0) (p1 := 34) (p2 := 15) (L' := [some (.inr (.inr (some 14))), some (.inl column), some (.inl value)]) (st' := []) (w' := (SH, dt)) rfl (c_ge (a := column) (b := 2) (by first | exact bnd h_column (by decide) (by decide) | exact ⟨by fail, by fail⟩) ⟨by decide, by decide⟩) (fun c4 => ?_) (fun c4 => ?_)
    · skip
      refine go_retq PM41 (k := 0) (r := none) (w1 := (SH, dt)) rfl ?_
      exact ⟨dt, rfl, hI, hF, ⟨rfl, trivial⟩⟩
    · skip
      have r5 : 0 ≤ dt 14 3 ∧ dt 14 3 ≤ 40 := InvC_get hI 14 3 rfl rfl
      refine go_toq PM41 (k := 7) (pc' := 26) (L' := [some (.inr (.inr (some 14))), some (.inl column), some (.inl value)]) (st' := [.inr (.inr (some 14)), .inl ((dt 14 3) - 1), .inr (.inr (some 15))]) (w' := (SH, dt)) rfl ?_
      refine go_smpq PM41 (L' := [some (.inr (.inr (some 14))), some (.inl column), some (.inl value)]) (st' := [.inl 2, .inl ((dt 14 3) - 1), .inr (.inr (some 15))]) (w' := (SH, dt)) rfl rfl (s_gfc rfl rfl rfl (hI.2 14 1 rfl)) ?_
      refine go_toq PM41 (k := 4) (pc' := 33) (L' := [some (.inr (.inr (some 14))), some (.inl column), some (.inl value)]) (st' := [.inl value, .inl ((((dt 14 3) - 1) * 2) + column), .inr (.inr (some 15))]) (w' := (SH, dt)) rfl ?_
      have hI6 : InvC (u2 dt 15 (((((dt 14 3) - 1) * 2) + column).toNat) value) := InvC_u2 hI (lo := -2147483648) (hi := 2147483647) rfl rfl rfl (by first | exact bnd1 h_value (by decide) | fail) (by first | exact bnd2 h_value (by decide) | fail)
      have hF7 : Fr [15] dt (u2 dt 15 (((((dt 14 3) - 1) * 2) + column).toNat) value) := Fr_u2 hF (by decide)
      refine go_smpq PM41 (L' := [some (.inr (.inr (some 14))), some (.inl column), some (.inl value)]) (st' := []) (w' := (SH, (u2 dt 15 (((((dt 14 3) - 1) * 2) + column).toNat) value))) rfl rfl (s_iast (n := 80) rfl ⟨by omega, by omega⟩ (by first | exact bnd h_value (by decide) (by decide) | exact ⟨by fail, by fail⟩)) ?_
      refine go_retq PM41 (k := 0) (r := none) (w1 := (SH, (u2 dt 15 (((((dt 14 3) - 1) * 2) + column).toNat) value))) rfl ?_
      exact ⟨(u2 dt 15 (((((dt 14 3) - 1) * 2) + column).toNat) value), rfl, hI6, hF7, ⟨rfl, trivial⟩⟩
theorem sp_X2_add_14 (L : Nat) (xs : Nat → Int32) (sio : Option Nat) (d : Nat) (dt : Nat → Nat → Int) (hI : InvC dt)  (a0 : Int) (h_a0 : (-2147483648) ≤ a0 ∧ a0 ≤ 2147483647) (a1 : Int) (h_a1 : (-2147483648) ≤ a1 ∧ a1 ≤ 2147483647) (a2 : Int) (h_a2 : (-2147483648) ≤ a2 ∧ a2 ≤ 2147483647) (a3 : Int) (h_a3 : (-2147483648) ≤ a3 ∧ a3 ≤ 2147483647) (a4 : Int) (h_a4 : (-2147483648) ≤ a4 ∧ a4 ≤ 2147483647) (a5 : Int) (h_a5 : (-2147483648) ≤ a5 ∧ a5 ≤ 2147483647)  : GO (am_XX L xs sio) (d + 1) 40 0 [some (.inr (.inr (some 14))), some (.inl a0), some (.inl a1), some (.inl a2), some (.inl a3), some (.inl a4), some (.inl a5)] [] (SH, dt) (fun r w2 => ∃ dt2 : Nat → Nat → Int, w2 = (SH, dt2) ∧ InvC dt2 ∧ Fr [14, 15] dt dt2 ∧ ((r = some (.inl (-1)) ∧ (40 ≤ dt 14 3) ∧ (dt2 14 3 = dt 14 3)) ∨ (∃ v : Int, r = some (.inl v) ∧ (0 ≤ v ∧ v ≤ 40) ∧ (v = dt 14 3) ∧ (dt 14 3 < 40) ∧ (dt2 14 3 = dt 14 3 + 1)))) := by
  have hF : Fr [14, 15] dt dt := Fr_refl
  have r1 : 0 ≤ dt 14 3 ∧ dt 14 3 ≤ 40 := InvC_get hI 14 3 rfl rfl
  refine go_toq PM40 (k := 1) (pc' := 1) (L' := [some (.inr (.inr (some 14))), some (.inl a0), some (.inl a1), some (.inl a2), some (.inl a3), some (.inl a4), some (.inl a5)]) (st' := [.inr (.inr (some 14))]) (w' := (SH, dt)) rfl ?_
  refine go_callq PM40 PM38 (Q' := _) rfl rfl rfl rfl (sp_X2_isFull_14 L xs sio (d + 0) dt hI   ) ?_
  rintro _ _ ⟨rfl, h2⟩
  refine ⟨rfl, ?_⟩
  rcases h2 with ⟨rfl, h2⟩ | ⟨rfl, h2⟩
  · skip
    refine go_retq PM40 (k := 2) (r := some (.inl (-1))) (w1 := (SH, dt)) rfl ?_
    first | exact ⟨dt, rfl, hI, hF, (Or.inl ⟨rfl, ⟨by first | exact True.intro | with_reducible assumption | rfl | fail | trivial, by first | exact True.intro | with_reducible assumption | rfl | fail | trivial⟩⟩)⟩ | exact ⟨dt, rfl, hI, hF, (Or.inr ⟨_, rfl, ⟨by decide, by decide⟩, ⟨by first | exact True.intro | with_reducible assumption | rfl | fail | trivial, by first | exact True.intro | with_reducible assumption | rfl | fail | trivial, by first | exact True.intro | with_reducible assumption | rfl | fail | trivial⟩⟩)⟩
  · skip
    have r3 : 0 ≤ dt 14 3 ∧ dt 14 3 ≤ 40 := InvC_get hI 14 3 rfl rfl
    refine go_toq PM40 (k := 6) (pc' := 16) (L' := [some (.inr (.inr (some 14))), some (.inl a0), some (.inl a1), some (.inl a2), some (.inl a3), some (.inl a4), some (.inl a5)]) (st' := [.inl ((dt 14 3) + 1), .inr (.inr (some 14))]) (w' := (SH, dt)) rfl ?_
    have hI4 : InvC (u2 dt 14 3 ((dt 14 3) + 1)) := InvC_u2 hI (lo := 0) (hi := 40) rfl rfl rfl (by omega) (by omega)
    have hF5 : Fr [14, 15] dt (u2 dt 14 3 ((dt 14 3) + 1)) := Fr_u2 hF (by decide)
    have w6 : (u2 dt 14 3 ((dt 14 3) + 1)) 14 3 = (dt 14 3) + 1 := rfl
    refine go_smpq PM40 (L' := [some (.inr (.inr (some 14))), some (.inl a0), some (.inl a1), some (.inl a2), some (.inl a3), some (.inl a4), some (.inl a5)]) (st' := []) (w' := (SH, (u2 dt 14 3 ((dt 14 3) + 1)))) rfl rfl (s_pf rfl rfl rfl rfl (by first | exact bndp r3 (by decide) (by decide) | exact ⟨by fail, by fail⟩)) ?_
    refine go_toq PM40 (k := 3) (pc' := 22) (L' := [some (.inr (.inr (some 14))), some (.inl a0), some (.inl a1), some (.inl a2), some (.inl a3), some (.inl a4), some (.inl a5)]) (st' := [.inl a0, .inl 0, .inr (.inr (some 14))]) (w' := (SH, (u2 dt 14 3 ((dt 14 3) + 1)))) rfl ?_
    refine go_callq PM40 PM41 (Q' := _) rfl rfl rfl rfl (sp_X2_set_14 L xs sio (d + 0) (u2 dt 14 3 ((dt 14 3) + 1)) hI4  0 ⟨by decide, by decide⟩ a0 (by first | exact bnd h_a0 (by decide) (by decide) | exact ⟨by fail, by fail⟩) ) ?_
    rintro _ _ ⟨dt8, rfl, hI9, hF10, h7⟩
    refine ⟨rfl, ?_⟩
    have hF11 : Fr [14, 15] dt dt8 := Fr_tr hF5 hF10 (by decide)
    have w12 : dt8 14 3 = (u2 dt 14 3 ((dt 14 3) + 1)) 14 3 := hF10 14 (by decide) 3
    rcases h7 with ⟨rfl, h7⟩
    refine go_toq PM40 (k := 3) (pc' := 28) (L' := [some (.inr (.inr (some 14))), some (.inl a0), some (.inl a1), some (.inl a2), some (.inl a3), some (.inl a4), some (.inl a5)]) (st' := [.inl a1, .inl 1, .inr (.inr (some 14))]) (w' := (SH, dt8)) rfl ?_
    refine go_callq PM40 PM41 (Q' := _) rfl rfl rfl rfl (sp_X2_set_14 L xs sio (d + 0) dt8 hI9  1 ⟨by decide, by decide⟩ a1 (by first | exact bnd h_a1 (by decide) (by decide) | exact ⟨by fail, by fail⟩) ) ?_
    rintro _ _ ⟨dt14, rfl, hI15, hF16, h13⟩
    refine ⟨rfl, ?_⟩
    have hF17 : Fr [14, 15] dt dt14 := Fr_tr hF11 hF16 (by decide)
    have w18 : dt14 14 3 = dt8 14 3 := hF16 14 (by decide) 3
    rcases h13 with ⟨rfl, h13⟩
    refine go_toq PM40 (k := 3) (pc' := 34) (L' := [some (.inr (.inr (some 14))), some (.inl a0), some (.inl a1), some (.inl a2), some (.inl a3), some (.inl a4), some (.inl a5)]) (st' := [.inl a2, .inl 2, .inr (.inr (some 14))]) (w' := (SH, dt14)) rfl ?_
    refine go_callq PM40 PM41 (Q' := _) rfl rfl rfl rfl (sp_X2_set_14 L xs sio (d + 0) dt14 hI15  2 ⟨by decide, by decide⟩ a2 (by first | exact bnd h_a2 (by decide) (by decide) | exact ⟨by fail, by fail⟩) ) ?_
    rintro _ _ ⟨dt20, rfl, hI21, hF22, h19⟩
    refine ⟨rfl, ?_⟩
    have hF23 : Fr [14, 15] dt dt20 := Fr_tr hF17 hF22 (by decide)
    have w24 : dt20 14 3 = dt14 14 3 := hF22 14 (by decide) 3
    rcases h19 with ⟨rfl, h19⟩
    refine go_toq PM40 (k := 3) (pc' := 41) (L' := [some (.inr (.inr (some 14))), some (.inl a0), some (.inl a1), some (.inl a2), some (.inl a3), some (.inl a4), some (.inl a5)]) (st' := [.inl a3, .inl 3, .inr (.inr (some 14))]) (w' := (SH, dt20)) rfl ?_
    refine go_callq PM40 PM41 (Q' := _) rfl rfl rfl rfl (sp_X2_set_14 L xs sio (d + 0) dt20 hI21  3 ⟨by decide, by decide⟩ a3 (by first | exact bnd h_a3 (by decide) (by decide) | exact ⟨by fail, by fail⟩) ) ?_
    rintro _ _ ⟨dt26, rfl, hI27, hF28, h25⟩
    refine ⟨rfl, ?_⟩
    have hF29 : Fr [14, 15] dt dt26 := Fr_tr hF23 hF28 (by decide)
    have w30 : dt26 14 3 = dt20 14 3 := hF28 14 (by decide) 3
    rcases h25 with ⟨rfl, h25⟩
    refine go_toq PM40 (k := 3) (pc' := 48) (L' := [some (.inr (.inr (some 14))), some (.inl a0), some (.inl a1), some (.inl a2), some (.inl a3), some (.inl a4), some (.inl a5)]) (st' := [.inl a4, .inl 4, .inr (.inr (some 14))]) (w' := (SH, dt26)) rfl ?_
    refine go_callq PM40 PM41 (Q' := _) rfl rfl rfl rfl (sp_X2_set_14 L xs sio (d + 0) dt26 hI27  4 ⟨by decide, by decide⟩ a4 (by first | exact bnd h_a4 (by decide) (by decide) | exact ⟨by fail, by fail⟩) ) ?_
    rintro _ _ ⟨dt32, rfl, hI33, hF34, h31⟩
    refine ⟨rfl, ?_⟩
    have hF35 : Fr [14, 15] dt dt32 := Fr_tr hF29 hF34 (by decide)
    have w36 : dt32 14 3 = dt26 14 3 := hF34 14 (by decide) 3
    rcases h31 with ⟨rfl, h31⟩
    refine go_toq PM40 (k := 3) (pc' := 55) (L' := [some (.inr (.inr (some 14))), some (.inl a0), some (.inl a1), some (.inl a2), some (.inl a3), some (.inl a4), some (.inl a5)]) (st' := [.inl a5, .inl 5, .inr (.inr (some 14))]) (w' := (SH, dt32)) rfl ?_
    refine go_callq PM40 PM41 (Q' := _) rfl rfl rfl rfl (sp_X2_set_14 L xs sio (d + 0) dt32 hI33  5 ⟨by decide, by decide⟩ a5 (by first | exact bnd h_a5 (by decide) (by decide) | exact ⟨by fail, by fail⟩) ) ?_
    rintro _ _ ⟨dt38, rfl, hI39, hF40, h37⟩
    refine ⟨rfl, ?_⟩
    have hF41 : Fr [14, 15] dt dt38 := Fr_tr hF35 hF40 (by decide)
    have w42 : dt38 14 3 = dt32 14 3 := hF40 14 (by decide) 3
    rcases h37 with ⟨rfl, h37⟩
    have r43 : 0 ≤ dt38 14 3 ∧ dt38 14 3 ≤ 40 := InvC_get hI39 14 3 rfl rfl
    refine go_retq PM40 (k := 4) (r := some (.inl ((dt38 14 3) - 1))) (w1 := (SH, dt38)) rfl ?_
    exact ⟨dt38, rfl, hI39, hF41, (Or.inr ⟨_, rfl, ⟨by omega, by omega⟩, ⟨by first | exact True.intro | with_reducible assumption | rfl | omega | trivial, by first | exact True.intro | with_reducible assumption | rfl | omega | trivial, by first | exact True.intro | with_reducible assumption | rfl | omega | trivial⟩⟩)⟩
theorem sp_X2_has_16 (L : Nat) (xs : Nat → Int32) (sio : Option Nat) (d : Nat) (dt : Nat → Nat → Int) (hI : InvC dt)  (row : Int) (h_row : (-2147483648) ≤ row ∧ row ≤ 2147483647)  : GO (am_XX L xs sio) (d) 37 0 [some (.inr (.inr (some 16))), some (.inl row)] [] (SH, dt) (fun r w2 => w2 = (SH, dt) ∧ ((r = some (.inl 1) ∧ (0 ≤ row ∧ row < dt 16 3)) ∨ (r = some (.inl 0) ∧ (¬ (0 ≤ row ∧ row < dt 16 3))))) := by
  refine go_ifq PM37 (k := 1) (p1 := 16) (p2 := 4) (L' := [some (.inr (.inr (some 16))), some (.inl row)]) (st' := []) (w' := (SH, dt)) rfl (z_lt (a := row) (by first | exact bnd h_row (by decide) (by decide) | exact ⟨by fail, by fail⟩)) (fun c1 => ?_) (fun c1 => ?_)
  · skip
    refine go_retq PM37 (k := 1) (r := some (.inl 0)) (w1 := (SH, dt)) rfl ?_
    exact ⟨rfl, (Or.inr ⟨rfl, by first | exact True.intro | with_reducible assumption | rfl | omega | trivial⟩)⟩
  · skip
    have r2 : 0 ≤ dt 16 3 ∧ dt 16 3 ≤ 20 := InvC_get hI 16 3 rfl rfl
    refine go_ifq PM37 (k := 3) (p1 := 16) (p2 := 12) (L' := [some (.inr (.inr (some 16))), some (.inl row)]) (st' := []) (w' := (SH, dt)) rfl (c_ge (a := row) (b := dt 16 3) (by first | exact bnd h_row (by decide) (by decide) | exact ⟨by fail, by fail⟩) (by first | exact bnd r2 (by decide) (by decide) | exact ⟨by fail, by fail⟩)) (fun c3 => ?_) (fun c3 => ?_)
    · skip
      refine go_retq PM37 (k := 1) (r := some (.inl 0)) (w1 := (SH, dt)) rfl ?_
      exact ⟨rfl, (Or.inr ⟨rfl, by first | exact True.intro | with_reducible assumption | rfl | omega | trivial⟩)⟩
    · skip
      refine go_retq PM37 (k := 2) (r := some (.inl 1)) (w1 := (SH, dt)) rfl ?_
      exact ⟨rfl, (Or.inl ⟨rfl, by first | exact True.intro | with_reducible assumption | rfl | omega | trivial⟩)⟩
theorem sp_X2_isFull_16 (L : Nat) (xs : Nat → Int32) (sio : Option Nat) (d : Nat) (dt : Nat → Nat → Int) (hI : InvC dt)    : GO (am_XX L xs sio) (d) 38 0 [some (.inr (.inr (some 16)))] [] (SH, dt) (fun r w2 => w2 = (SH, dt) ∧ ((r = some (.inl 1) ∧ (20 ≤ dt 16 3)) ∨ (r = some (.inl 0) ∧ (¬ (20 ≤ dt 16 3))))) := by
  have r1 : 0 ≤ dt 16 3 ∧ dt 16 3 ≤ 20 := InvC_get hI 16 3 rfl rfl
  refine go_toq PM38 (k := 3) (pc' := 5) (L' := [some (.inr (.inr (some 16)))]) (st' := [.inr (.inr (some 16)), .inl (dt 16 3)]) (w' := (SH, dt)) rfl ?_
  refine go_smpq PM38 (L' := [some (.inr (.inr (some 16)))]) (st' := [.inl 20, .inl (dt 16 3)]) (w' := (SH, dt)) rfl rfl (s_gfc rfl rfl rfl (hI.2 16 0 rfl)) ?_
  refine go_ifq PM38 (k := 0) (p1 := 15) (p2 := 11) (L' := [some (.inr (.inr (some 16)))]) (st' := []) (w' := (SH, dt)) rfl (c_lt (a := dt 16 3) (b := 20) (by first | exact bnd r1 (by decide) (by decide) | exact ⟨by fail, by fail⟩) ⟨by decide, by decide⟩) (fun c2 => ?_) (fun c2 => ?_)
  · skip
    refine go_retq PM38 (k := 1) (r := some (.inl 0)) (w1 := (SH, dt)) rfl ?_
    exact ⟨rfl, (Or.inr ⟨rfl, by first | exact True.intro | with_reducible assumption | rfl | omega | trivial⟩)⟩
  · skip
    refine go_retq PM38 (k := 2) (r := some (.inl 1)) (w1 := (SH, dt)) rfl ?_
    exact ⟨rfl, (Or.inl ⟨rfl, by first | exact True.intro | with_reducible assumption | rfl | omega | trivial⟩)⟩
theorem sp_X2_at_16 (L : Nat) (xs : Nat → Int32) (sio : Option Nat) (d : Nat) (dt : Nat → Nat → Int) (hI : InvC dt)  (row : Int) (h_row : (-2147483648) ≤ row ∧ row ≤ 2147483647) (column : Int) (h_column : (-2147483648) ≤ column ∧ column ≤ 2147483647)  : GO (am_XX L xs sio) (d + 1) 39 0 [some (.inr (.inr (some 16))), some (.inl row), some (.inl column)] [] (SH, dt) (fun r w2 => w2 = (SH, dt) ∧ ((∃ v : Int, r = some (.inl v) ∧ ((-2147483648) ≤ v ∧ v ≤ 2147483647) ∧ True))) := by
  have r1 : 0 ≤ dt 16 3 ∧ dt 16 3 ≤ 20 := InvC_get hI 16 3 rfl rfl
  refine go_toq PM39 (k := 2) (pc' := 2) (L' := [some (.inr (.inr (some 16))), some (.inl row), some (.inl column)]) (st' := [.inl row, .inr (.inr (some 16))]) (w' := (SH, dt)) rfl ?_
  refine go_callq PM39 PM37 (Q' := _) rfl rfl rfl rfl (sp_X2_has_16 L xs sio (d + 0) dt hI  row (by first | exact h_row | exact bnd h_row (by decide) (by decide) | exact ⟨by fail, by fail⟩) ) ?_
  rintro _ _ ⟨rfl, h2⟩
  refine ⟨rfl, ?_⟩
  rcases h2 with ⟨rfl, h2⟩ | ⟨rfl, h2⟩
  · skip
    refine go_ifq PM39 (k := 2) (p1 := 36) (p2 := 12) (L' := [some (.inr (.inr (some 16))), some (.inl row), some (.inl column)]) (st' := []) (w' := (SH, dt)) rfl (z_lt (a := column) (by first | exact bnd h_column (by decide) (by decide) | exact ⟨by fail, by fail⟩)) (fun c3 => ?_) (fun c3 => ?_)
    · skip
      refine go_retq PM39 (k := 1) (r := some (.inl (-1))) (w1 := (SH, dt)) rfl ?_
      exact ⟨rfl, ⟨_, rfl, ⟨by decide, by decide⟩, trivial⟩⟩
    · skip
      refine go_toq PM39 (k := 2) (pc' := 14) (L' := [some (.inr (.inr (some 16))), some (.inl row), some (.inl column)]) (st' := [.inr (.inr (some 16)), .inl column]) (w' := (SH, dt)) rfl ?_
      refine go_smpq PM39 (L' := [some (.inr (.inr (some 16))), some (.inl row), some (.inl column)]) (st' := [.inl 2, .inl column]) (w' := (SH, dt)) rfl rfl (s_gfc rfl rfl rfl (hI.2 16 1 rfl)) ?_
      refine go_ifq PM39 (k := 0) (p1 := 36) (p2 := 20) (L' := [some (.inr (.inr (some 16))), some (.inl row), some (.inl column)]) (st' := []) (w' := (SH, dt)) rfl (c_ge (a := column) (b := 2) (by first | exact bnd h_column (by decide) (by decide) | exact ⟨by fail, by fail⟩) ⟨by decide, by decide⟩) (fun c4 => ?_) (fun c4 => ?_)
      · skip
        refine go_retq PM39 (k := 1) (r := some (.inl (-1))) (w1 := (SH, dt)) rfl ?_
        exact ⟨rfl, ⟨_, rfl, ⟨by decide, by decide⟩, trivial⟩⟩
      · skip
        refine go_toq PM39 (k := 4) (pc' := 26) (L' := [some (.inr (.inr (some 16))), some (.inl row), some (.inl column)]) (st' := [.inr (.inr (some 16)), .inl row, .inr (.inr (some 17))]) (w' := (SH, dt)) rfl ?_
        refine go_smpq PM39 (L' := [some (.inr (.inr (some 16))), some (.inl row), some (.inl column)]) (st' := [.inl 2, .inl row, .inr (.inr (some 17))]) (w' := (SH, dt)) rfl rfl (s_gfc rfl rfl rfl (hI.2 16 1 rfl)) ?_
        refine go_toq PM39 (k := 3) (pc' := 32) (L' := [some (.inr (.inr (some 16))), some (.inl row), some (.inl column)]) (st' := [.inl ((row * 2) + column), .inr (.inr (some 17))]) (w' := (SH, dt)) rfl ?_
        have r5 : (-2147483648) ≤ dt 17 (((row * 2) + column).toNat) ∧ dt 17 (((row * 2) + column).toNat) ≤ 2147483647 := InvC_get hI 17 (((row * 2) + column).toNat) rfl rfl
        refine go_smpq PM39 (L' := [some (.inr (.inr (some 16))), some (.inl row), some (.inl column)]) (st' := [.inl (dt 17 (((row * 2) + column).toNat))]) (w' := (SH, dt)) rfl rfl (s_iald (n := 40) (f := dt 17) rfl ⟨by omega, by omega⟩) ?_
        refine go_retq PM39 (k := 1) (r := some (.inl (dt 17 (((row * 2) + column).toNat)))) (w1 := (SH, dt)) rfl ?_
        exact ⟨rfl, ⟨_, rfl, (by first | exact bnd r5 (by decide) (by decide) | exact ⟨by fail, by fail⟩), trivial⟩⟩
  · skip
    refine go_retq PM39 (k := 2) (r := some (.inl (-1))) (w1 := (SH, dt)) rfl ?_
    exact ⟨rfl, ⟨_, rfl, ⟨by decide, by decide⟩, trivial⟩⟩
theorem sp_X2_set_16 (L : Nat) (xs : Nat → Int32) (sio : Option Nat) (d : Nat) (dt : Nat → Nat → Int) (hI : InvC dt)  (column : Int) (h_column : 0 ≤ column ∧ column ≤ 1000) (value : Int) (h_value : (-2147483648) ≤ value ∧ value ≤ 2147483647)  : GO (am_XX L xs sio) (d) 41 0 [some (.inr (.inr (some 16))), some (.inl column), some (.inl value)] [] (SH, dt) (fun r w2 => ∃ dt2 : Nat → Nat → Int, w2 = (SH, dt2) ∧ InvC dt2 ∧ Fr [17] dt dt2 ∧ ((r = none ∧ True))) := by
  have hF : Fr [17] dt dt := Fr_refl
  have r1 : 0 ≤ dt 16 3 ∧ dt 16 3 ≤ 20 := InvC_get hI 16 3 rfl rfl
  have r2 : 0 ≤ dt 16 3 ∧ dt 16 3 ≤ 20 := InvC_get hI 16 3 rfl rfl
  refine go_ifq PM41 (k := 2) (p1 := 34) (p2 := 7) (L' := [some (.inr (.inr (some 16))), some (.inl column), some (.inl value)]) (st' := []) (w' := (SH, dt)) rfl (z_le (a := dt 16 3) (by first | exact bnd r2 (by decide) (by decide) | exact ⟨by fail, by fail⟩)) (fun c3 => ?_) (fun c3 => ?_)
  · skip
    refine go_retq PM41 (k := 0) (r := none) (w1 := (SH, dt)) rfl ?_
    exact ⟨dt, rfl, hI, hF, ⟨rfl, trivial⟩⟩
  · skip
    refine go_toq PM41 (k := 2) (pc' := 9) (L' := [some (.inr (.inr (some 16))), some (.inl column), some (.inl value)]) (st' := [.inr (.inr (some 16)), .inl column]) (w' := (SH, dt)) rfl ?_
    refine go_smpq PM41 (L' := [some (.inr (.inr (some 16))), some (.inl column), some (.inl value)]) (st' := [.inl 2, .inl column]) (w' := (SH, dt)) rfl rfl (s_gfc rfl rfl rfl (hI.2 16 1 rfl)) ?_
    refine go_ifq PM41 (k := 0) (p1 := 34) (p2 := 15) (L' := [some (.inr (.inr (some 16))), some (.inl column), some (.inl value)]) (st' := []) (w' := (SH, dt)) rfl (c_ge (a := column) (b := 2) (by first | exact bnd h_column (by decide) (by decide) | exact ⟨by fail, by fail⟩) ⟨by decide, by decide⟩) (fun c4 => ?_) (fun c4 => ?_)
    · skip
      refine go_retq PM41 (k := 0) (r := none) (w1 := (SH, dt)) rfl ?_
      exact ⟨dt, rfl, hI, hF, ⟨rfl, trivial⟩⟩
    · skip
      have r5 : 0 ≤ dt 16 3 ∧ dt 16 3 ≤ 20 := InvC_get hI 16 3 rfl rfl
      refine go_toq PM41 (k := 7) (pc' := 26) (L' := [some (.inr (.inr (some 16))), some (.inl column), some (.inl value)]) (st' := [.inr (.inr (some 16)), .inl ((dt 16 3) - 1), .inr (.inr (some 17))]) (w' := (SH, dt)) rfl ?_
      refine go_smpq PM41 (L' := [some (.inr (.inr (some 16))), some (.inl column), some (.inl value)]) (st' := [.inl 2, .inl ((dt 16 3) - 1), .inr (.inr (some 17))]) (w' := (SH, dt)) rfl rfl (s_gfc rfl rfl rfl (hI.2 16 1 rfl)) ?_
      refine go_toq PM41 (k := 4) (pc' := 33) (L' := [some (.inr (.inr (some 16))), some (.inl column), some (.inl value)]) (st' := [.inl value, .inl ((((dt 16 3) - 1) * 2) + column), .inr (.inr (some 17))]) (w' := (SH, dt)) rfl ?_
      have hI6 : InvC (u2 dt 17 (((((dt 16 3) - 1) * 2) + column).toNat) value) := InvC_u2 hI (lo := -2147483648) (hi := 2147483647) rfl rfl rfl (by first | exact bnd1 h_value (by decide) | fail) (by first | exact bnd2 h_value (by decide) | fail)
      have hF7 : Fr [17] dt (u2 dt 17 (((((dt 16 3) - 1) * 2) + column).toNat) value) := Fr_u2 hF (by decide)
      refine go_smpq PM41 (L' := [some (.inr (.inr (some 16))), some (.inl column), some (.inl value)]) (st' := []) (w' := (SH, (u2 dt 17 (((((dt 16 3) - 1) * 2) + column).toNat) value))) rfl rfl (s_iast (n := 40) rfl ⟨by omega, by omega⟩ (by first | exact bnd h_value (by decide) (by decide) | exact ⟨by fail, by fail⟩)) ?_
      refine go_retq PM41 (k := 0) (r := none) (w1 := (SH, (u2 dt 17 (((((dt 16 3) - 1) * 2) + column).toNat) value))) rfl ?_
      exact ⟨(u2 dt 17 (((((dt 16 3) - 1) * 2) + column).toNat) value), rfl, hI6, hF7, ⟨rfl, trivial⟩⟩
theorem sp_X2_add_16 (L : Nat) (xs : Nat → Int32) (sio : Option Nat) (d : Nat) (dt : Nat → Nat → Int) (hI : InvC dt)  (a0 : Int) (h_a0 : (-2147483648) ≤ a0 ∧ a0 ≤ 2147483647) (a1 : Int) (h_a1 : (-2147483648) ≤ a1 ∧ a1 ≤ 2147483647) (a2 : Int) (h_a2 : (-2147483648) ≤ a2 ∧ a2 ≤ 2147483647) (a3 : Int) (h_a3 : (-2147483648) ≤ a3 ∧ a3 ≤ 2147483647) (a4 : Int) (h_a4 : (-2147483648) ≤ a4 ∧ a4 ≤ 2147483647) (a5 : Int) (h_a5 : (-2147483648) ≤ a5 ∧ a5 ≤ 2147483647)  : GO (am_XX L xs sio) (d + 1) 40 0 [some (.inr (.inr (some 16))), some (.inl a0), some (.inl a1), some (.inl a2), some (.inl a3), some (.inl a4), some (.inl a5)] [] (SH, dt) (fun r w2 => ∃ dt2 : Nat → Nat → Int, w2 = (SH, dt2) ∧ InvC dt2 ∧ Fr [16, 17] dt dt2 ∧ ((r = some (.inl (-1)) ∧ (20 ≤ dt 16 3) ∧ (dt2 16 3 = dt 16 3)) ∨ (∃ v : Int, r = some (.inl v) ∧ (0 ≤ v ∧ v ≤ 20) ∧ (v = dt 16 3) ∧ (dt 16 3 < 20) ∧ (dt2 16 3 = dt 16 3 + 1)))) := by
  have hF : Fr [16, 17] dt dt := Fr_refl
  have r1 : 0 ≤ dt 16 3 ∧ dt 16 3 ≤ 20 := InvC_get hI 16 3 rfl rfl
  refine go_toq PM40 (k := 1) (pc' := 1) (L' := [some (.inr (.inr (some 16))), some (.inl a0), some (.inl a1), some (.inl a2), some (.inl a3), some (.inl a4), some (.inl a5)]) (st' := [.inr (.inr (some 16))]) (w' := (SH, dt)) rfl ?_
  refine go_callq PM40 PM38 (Q' := _) rfl rfl rfl rfl (sp_X2_isFull_16 L xs sio (d + 0) dt hI   ) ?_
  rintro _ _ ⟨rfl, h2⟩
  refine ⟨rfl, ?_⟩
  rcases h2 with ⟨rfl, h2⟩ | ⟨rfl, h2⟩
  · skip
    refine go_retq PM40 (k := 2) (r := some (.inl (-1))) (w1 := (SH, dt)) rfl ?_
    first | exact ⟨dt, rfl, hI, hF, (Or.inl ⟨rfl, ⟨by first | exact True.intro | with_reducible assumption | rfl | fail | trivial, by first | exact True.intro | with_reducible assumption | rfl | fail | trivial⟩⟩)⟩ | exact ⟨dt, rfl, hI, hF, (Or.inr ⟨_, rfl, ⟨by decide, by decide⟩, ⟨by first | exact True.intro | with_reducible assumption | rfl | fail | trivial, by first | exact True.intro | with_reducible assumption | rfl | fail | trivial, by first | exact True.intro | with_reducible assumption | rfl | fail | trivial⟩⟩)⟩
  · skip
    have r3 : 0 ≤ dt 16 3 ∧ dt 16 3 ≤ 20 := InvC_get hI 16 3 rfl rfl
    refine go_toq PM40 (k := 6) (pc' := 16) (L' := [some (.inr (.inr (some 16))), some (.inl a0), some (.inl a1), some (.inl a2), some (.inl a3), some (.inl a4), some (.inl a5)]) (st' := [.inl ((dt 16 3) + 1), .inr (.inr (some 16))]) (w' := (SH, dt)) rfl ?_
    have hI4 : InvC (u2 dt 16 3 ((dt 16 3) + 1)) := InvC_u2 hI (lo := 0) (hi := 20) rfl rfl rfl (by omega) (by omega)
    have hF5 : Fr [16, 17] dt (u2 dt 16 3 ((dt 16 3) + 1)) := Fr_u2 hF (by decide)
    have w6 : (u2 dt 16 3 ((dt 16 3) + 1)) 16 3 = (dt 16 3) + 1 := rfl
    refine go_smpq PM40 (L' := [some (.inr (.inr (some 16))), some (.inl a0), some (.inl a1), some (.inl a2), some (.inl a3), some (.inl a4), some (.inl a5)]) (st' := []) (w' := (SH, (u2 dt 16 3 ((dt 16 3) + 1)))) rfl rfl (s_pf rfl rfl rfl rfl (by first | exact bndp r3 (by decide) (by decide) | exact ⟨by fail, by fail⟩)) ?_
    refine go_toq PM40 (k := 3) (pc' := 22) (L' := [some (.inr (.inr (some 16))), some (.inl a0), some (.inl a1), some (.inl a2), some (.inl a3), some (.inl a4), some (.inl a5)]) (st' := [.inl a0, .inl 0, .inr (.inr (some 16))]) (w' := (SH, (u2 dt 16 3 ((dt 16 3) + 1)))) rfl ?_
    refine go_callq PM40 PM41 (Q' := _) rfl rfl rfl rfl (sp_X2_set_16 L xs sio (d + 0) (u2 dt 16 3 ((dt 16 3) + 1)) hI4  0 ⟨by decide, by decide⟩ a0 (by first | exact bnd h_a0 (by decide) (by decide) | exact ⟨by fail, by fail⟩) ) ?_
    rintro _ _ ⟨dt8, rfl, hI9, hF10, h7⟩
    refine ⟨rfl, ?_⟩
    have hF11 : Fr [16, 17] dt dt8 := Fr_tr hF5 hF10 (by decide)
    have w12 : dt8 16 3 = (u2 dt 16 3 ((dt 16 3) + 1)) 16 3 := hF10 16 (by decide) 3
    rcases h7 with ⟨rfl, h7⟩
    refine go_toq PM40 (k := 3) (pc' := 28) (L' := [some (.inr (.inr (some 16))), some (.inl a0), some (.inl a1), some (.inl a2), some (.inl a3), some (.inl a4), some (.inl a5)]) (st' := [.inl a1, .inl 1, .inr (.inr (some 16))]) (w' := (SH, dt8)) rfl ?_
    refine go_callq PM40 PM41 (Q' := _) rfl rfl rfl rfl (sp_X2_set_16 L xs sio (d + 0) dt8 hI9  1 ⟨by decide, by decide⟩ a1 (by first | exact bnd h_a1 (by decide) (by decide) | exact ⟨by fail, by fail⟩) ) ?_
    rintro _ _ ⟨dt14, rfl, hI15, hF16, h13⟩
    refine ⟨rfl, ?_⟩
    have hF17 : Fr [16, 17] dt dt14 := Fr_tr hF11 hF16 (by decide)
    have w18 : dt14 16 3 = dt8 16 3 := hF16 16 (by decide) 3
    rcases h13 with ⟨rfl, h13⟩
    refine go_toq PM40 (k := 3) (pc' := 34) (L' := [some (.inr (.inr (some 16))), some (.inl a0), some (.inl a1), some (.inl a2), some (.inl a3), some (.inl a4), some (.inl a5)]) (st' := [.inl a2, .inl 2, .inr (.inr (some 16))]) (w' := (SH, dt14)) rfl ?_
    refine go_callq PM40 PM41 (Q' := _) rfl rfl rfl rfl (sp_X2_set_16 L xs sio (d + 0) dt14 hI15  2 ⟨by decide, by decide⟩ a2 (by first | exact bnd h_a2 (by decide) (by decide) | exact ⟨by fail, by fail⟩) ) ?_
    rintro _ _ ⟨dt20, rfl, hI21, hF22, h19⟩
    refine ⟨rfl, ?_⟩
    have hF23 : Fr [16, 17] dt dt20 := Fr_tr hF17 hF22 (by decide)
    have w24 : dt20 16 3 = dt14 16 3 := hF22 16 (by decide) 3
    rcases h19 with ⟨rfl, h19⟩
    refine go_toq PM40 (k := 3) (pc' := 41) (L' := [some (.inr (.inr (some 16))), some (.inl a0), some (.inl a1), some (.inl a2), some (.inl a3), some (.inl a4), some (.inl a5)]) (st' := [.inl a3, .inl 3, .inr (.inr (some 16))]) (w' := (SH, dt20)) rfl ?_
    refine go_callq PM40 PM41 (Q' := _) rfl rfl rfl rfl (sp_X2_set_16 L xs sio (d + 0) dt20 hI21  3 ⟨by decide, by decide⟩ a3 (by first | exact bnd h_a3 (by decide) (by decide) | exact ⟨by fail, by fail⟩) ) ?_
    rintro _ _ ⟨dt26, rfl, hI27, hF28, h25⟩
    refine ⟨rfl, ?_⟩
    have hF29 : Fr [16, 17] dt dt26 := Fr_tr hF23 hF28 (by decide)
    have w30 : dt26 16 3 = dt20 16 3 := hF28 16 (by decide) 3
    rcases h25 with ⟨rfl, h25⟩
    refine go_toq PM40 (k := 3) (pc' := 48) (L' := [some (.inr (.inr (some 16))), some (.inl a0), some (.inl a1), some (.inl a2), some (.inl a3), some (.inl a4), some (.inl a5)]) (st' := [.inl a4, .inl 4, .inr (.inr (some 16))]) (w' := (SH, dt26)) rfl ?_
    refine go_callq PM40 PM41 (Q' := _) rfl rfl rfl rfl (sp_X2_set_16 L xs sio (d + 0) dt26 hI27  4 ⟨by decide, by decide⟩ a4 (by first | exact bnd h_a4 (by decide) (by decide) | exact ⟨by fail, by fail⟩) ) ?_
    rintro _ _ ⟨dt32, rfl, hI33, hF34, h31⟩
    refine ⟨rfl, ?_⟩
    have hF35 : Fr [16, 17] dt dt32 := Fr_tr hF29 hF34 (by decide)
    have w36 : dt32 16 3 = dt26 16 3 := hF34 16 (by decide) 3
    rcases h31 with ⟨rfl, h31⟩
    refine go_toq PM40 (k := 3) (pc' := 55) (L' := [some (.inr (.inr (some 16))), some (.inl a0), some (.inl a1), some (.inl a2), some (.inl a3), some (.inl a4), some (.inl a5)]) (st' := [.inl a5, .inl 5, .inr (.inr (some 16))]) (w' := (SH, dt32)) rfl ?_
    refine go_callq PM40 PM41 (Q' := _) rfl rfl rfl rfl (sp_X2_set_16 L xs sio (d + 0) dt32 hI33  5 ⟨by decide, by decide⟩ a5 (by first | exact bnd h_a5 (by decide) (by decide) | exact ⟨by fail, by fail⟩) ) ?_
    rintro _ _ ⟨dt38, rfl, hI39, hF40, h37⟩
    refine ⟨rfl, ?_⟩
    have hF41 : Fr [16, 17] dt dt38 := Fr_tr hF35 hF40 (by decide)
    have w42 : dt38 16 3 = dt32 16 3 := hF40 16 (by decide) 3
    rcases h37 with ⟨rfl, h37⟩
    have r43 : 0 ≤ dt38 16 3 ∧ dt38 16 3 ≤ 20 := InvC_get hI39 16 3 rfl rfl
    refine go_retq PM40 (k := 4) (r := some (.inl ((dt38 16 3) - 1))) (w1 := (SH, dt38)) rfl ?_
    exact ⟨dt38, rfl, hI39, hF41, (Or.inr ⟨_, rfl, ⟨by omega, by omega⟩, ⟨by first | exact True.intro | with_reducible assumption | rfl | omega | trivial, by first | exact True.intro | with_reducible assumption | rfl | omega | trivial, by first | exact True.intro | with_reducible assumption | rfl | omega | trivial⟩⟩)⟩
theorem sp_X2_copyFrom_10 (L : Nat) (xs : Nat → Int32) (sio : Option Nat) (d : Nat) (dt : Nat → Nat → Int) (hI : InvC dt)    : GO (am_XX L xs sio) (d + 1) 42 0 [some (.inr (.inr (some 10))), some (.inr (.inr (some 27)))] [] (SH, dt) (fun r w2 => ∃ dt2 : Nat → Nat → Int, w2 = (SH, dt2) ∧ InvC dt2 ∧ Fr [10, 11] dt dt2 ∧ ((r = none ∧ (dt2 10 3 = dt 27 3)))) := by
  have hF : Fr [10, 11] dt dt := Fr_refl
  have r1 : 0 ≤ dt 27 3 ∧ dt 27 3 ≤ 40 := InvC_get hI 27 3 rfl rfl
  have r2 : 0 ≤ dt 27 3 ∧ dt 27 3 ≤ 40 := InvC_get hI 27 3 rfl rfl
  refine go_toq PM42 (k := 4) (pc' := 6) (L' := [some (.inr (.inr (some 10))), some (.inr (.inr (some 27)))]) (st' := [.inr (.inr (some 10)), .inl (dt 27 3), .inr (.inr (some 10))]) (w' := (SH, dt)) rfl ?_
  refine go_smpq PM42 (L' := [some (.inr (.inr (some 10))), some (.inr (.inr (some 27)))]) (st' := [.inl 40, .inl (dt 27 3), .inr (.inr (some 10))]) (w' := (SH, dt)) rfl rfl (s_gfc rfl rfl rfl (hI.2 10 0 rfl)) ?_
  refine go_callq PM42 PM266 (Q' := _) rfl rfl rfl rfl (sp_J9_min_7cf53 L xs sio (d + 0) dt hI  (dt 27 3) (by first | exact bnd r2 (by decide) (by decide) | exact ⟨by omega, by omega⟩) 40 ⟨by decide, by decide⟩ ) ?_
  rintro _ _ ⟨rfl, h3⟩
  refine ⟨rfl, ?_⟩
  rcases h3 with ⟨v_h3, rfl, h3r, h3⟩
  have hI4 : InvC (u2 dt 10 3 v_h3) := InvC_u2 hI (lo := 0) (hi := 40) rfl rfl rfl (by first | exact bnd1 h3r (by decide) | omega) (by first | exact bnd2 h3r (by decide) | omega)
  have hF5 : Fr [10, 11] dt (u2 dt 10 3 v_h3) := Fr_u2 hF (by decide)
  have w6 : (u2 dt 10 3 v_h3) 10 3 = v_h3 := rfl
  refine go_smpq PM42 (L' := [some (.inr (.inr (some 10))), some (.inr (.inr (some 27)))]) (st' := []) (w' := (SH, (u2 dt 10 3 v_h3))) rfl rfl (s_pf rfl rfl rfl rfl ⟨by omega, by omega⟩) ?_
  refine go_toq PM42 (k := 12) (pc' := 35) (L' := [some (.inr (.inr (some 10))), some (.inr (.inr (some 27)))]) (st' := [.inl 160, .inl 160, .inl 0, .inr (.inr (some 11)), .inl 0, .inr (.inr (some 28))]) (w' := (SH, (u2 dt 10 3 v_h3))) rfl ?_
  refine go_callq PM42 PM266 (Q' := _) rfl rfl rfl rfl (sp_J9_min_7cf53 L xs sio (d + 0) (u2 dt 10 3 v_h3) hI4  160 ⟨by decide, by decide⟩ 160 ⟨by decide, by decide⟩ ) ?_
  rintro _ _ ⟨rfl, h7⟩
  refine ⟨rfl, ?_⟩
  rcases h7 with ⟨v_h7, rfl, h7r, h7⟩
  have hI8 : InvC (am_cp (u2 dt 10 3 v_h3) 28 11 0 0 (v_h7).toNat) := InvC_cp hI4 (fun _ _ => rfl) (fun _ _ => rfl) (fun _ => rfl)
  have hF9 : Fr [10, 11] dt (am_cp (u2 dt 10 3 v_h3) 28 11 0 0 (v_h7).toNat) := Fr_cp hF5 (by decide)
  have w10 : (am_cp (u2 dt 10 3 v_h3) 28 11 0 0 (v_h7).toNat) 10 3 = (u2 dt 10 3 v_h3) 10 3 := rfl
  refine go_cpyq PM42 (L' := [some (.inr (.inr (some 10))), some (.inr (.inr (some 27)))]) (st' := []) (w' := (SH, (am_cp (u2 dt 10 3 v_h3) 28 11 0 0 (v_h7).toNat))) rfl rfl (s_cpy (n0 := 160) (n1 := 160) rfl rfl ⟨⟨by omega, by omega, by omega⟩, by omega, by omega, by decide⟩) ?_
  refine go_retq PM42 (k := 0) (r := none) (w1 := (SH, (am_cp (u2 dt 10 3 v_h3) 28 11 0 0 (v_h7).toNat))) rfl ?_
  exact ⟨(am_cp (u2 dt 10 3 v_h3) 28 11 0 0 (v_h7).toNat), rfl, hI8, hF9, ⟨rfl, by first | exact True.intro | with_reducible assumption | rfl | omega | trivial⟩⟩
theorem sp_X2_copyFrom_12 (L : Nat) (xs : Nat → Int32) (sio : Option Nat) (d : Nat) (dt : Nat → Nat → Int) (hI : InvC dt)    : GO (am_XX L xs sio) (d + 1) 42 0 [some (.inr (.inr (some 12))), some (.inr (.inr (some 29)))] [] (SH, dt) (fun r w2 => ∃ dt2 : Nat → Nat → Int, w2 = (SH, dt2) ∧ InvC dt2 ∧ Fr [12, 13] dt dt2 ∧ ((r = none ∧ (dt2 12 3 = dt 29 3)))) := by
  have hF : Fr [12, 13] dt dt := Fr_refl
  have r1 : 0 ≤ dt 29 3 ∧ dt 29 3 ≤ 300 := InvC_get hI 29 3 rfl rfl
  have r2 : 0 ≤ dt 29 3 ∧ dt 29 3 ≤ 300 := InvC_get hI 29 3 rfl rfl
  refine go_toq PM42 (k := 4) (pc' := 6) (L' := [some (.inr (.inr (some 12))), some (.inr (.inr (some 29)))]) (st' := [.inr (.inr (some 12)), .inl (dt 29 3), .inr (.inr (some 12))]) (w' := (SH, dt)) rfl ?_
  refine go_smpq PM42 (L' := [some (.inr (.inr (some 12))), some (.inr (.inr (some 29)))]) (st' := [.inl 300, .inl (dt 29 3), .inr (.inr (some 12))]) (w' := (SH, dt)) rfl rfl (s_gfc rfl rfl rfl (hI.2 12 0 rfl)) ?_
  refine go_callq PM42 PM266 (Q' := _) rfl rfl rfl rfl (sp_J9_min_7cf53 L xs sio (d + 0) dt hI  (dt 29 3) (by first | exact bnd r2 (by decide) (by decide) | exact ⟨by fail, by fail⟩) 300 ⟨by decide, by decide⟩ ) ?_
  rintro _ _ ⟨rfl, h3⟩
  refine ⟨rfl, ?_⟩
  rcases h3 with ⟨v_h3, rfl, h3r, h3⟩
  have hI4 : InvC (u2 dt 12 3 v_h3) := InvC_u2 hI (lo := 0) (hi := 300) rfl rfl rfl (by first | exact bnd1 h3r (by decide) | omega) (by first | exact bnd2 h3r (by decide) | omega)
  have hF5 : Fr [12, 13] dt (u2 dt 12 3 v_h3) := Fr_u2 hF (by decide)
  have w6 : (u2 dt 12 3 v_h3) 12 3 = v_h3 := rfl
  refine go_smpq PM42 (L' := [some (.inr (.inr (some 12))), some (.inr (.inr (some 29)))]) (st' := []) (w' := (SH, (u2 dt 12 3 v_h3))) rfl rfl (s_pf rfl rfl rfl rfl ⟨by omega, by omega⟩) ?_
  refine go_toq PM42 (k := 12) (pc' := 35) (L' := [some (.inr (.inr (some 12))), some (.inr (.inr (some 29)))]) (st' := [.inl 1800, .inl 1800, .inl 0, .inr (.inr (some 13)), .inl 0, .inr (.inr (some 30))]) (w' := (SH, (u2 dt 12 3 v_h3))) rfl ?_
  refine go_callq PM42 PM266 (Q' := _) rfl rfl rfl rfl (sp_J9_min_7cf53 L xs sio (d + 0) (u2 dt 12 3 v_h3) hI4  1800 ⟨by decide, by decide⟩ 1800 ⟨by decide, by decide⟩ ) ?_
  rintro _ _ ⟨rfl, h7⟩
  refine ⟨rfl, ?_⟩
  rcases h7 with ⟨v_h7, rfl, h7r, h7⟩
  have hI8 : InvC (am_cp (u2 dt 12 3 v_h3) 30 13 0 0 (v_h7).toNat) := InvC_cp hI4 (fun _ _ => rfl) (fun _ _ => rfl) (fun _ => rfl)
  have hF9 : Fr [12, 13] dt (am_cp (u2 dt 12 3 v_h3) 30 13 0 0 (v_h7).toNat) := Fr_cp hF5 (by decide)
  have w10 : (am_cp (u2 dt 12 3 v_h3) 30 13 0 0 (v_h7).toNat) 12 3 = (u2 dt 12 3 v_h3) 12 3 := rfl
  refine go_cpyq PM42 (L' := [some (.inr (.inr (some 12))), some (.inr (.inr (some 29)))]) (st' := []) (w' := (SH, (am_cp (u2 dt 12 3 v_h3) 30 13 0 0 (v_h7).toNat))) rfl rfl (s_cpy (n0 := 1800) (n1 := 1800) rfl rfl ⟨⟨by omega, by omega, by omega⟩, by omega, by omega, by decide⟩) ?_
  refine go_retq PM42 (k := 0) (r := none) (w1 := (SH, (am_cp (u2 dt 12 3 v_h3) 30 13 0 0 (v_h7).toNat))) rfl ?_
  exact ⟨(am_cp (u2 dt 12 3 v_h3) 30 13 0 0 (v_h7).toNat), rfl, hI8, hF9, ⟨rfl, by first | exact True.intro | with_reducible assumption | rfl | omega | trivial⟩⟩
theorem sp_X2_copyFrom_14 (L : Nat) (xs : Nat → Int32) (sio : Option Nat) (d : Nat) (dt : Nat → Nat → Int) (hI : InvC dt)    : GO (am_XX L xs sio) (d + 1) 42 0 [some (.inr (.inr (some 14))), some (.inr (.inr (some 31)))] [] (SH, dt) (fun r w2 => ∃ dt2 : Nat → Nat → Int, w2 = (SH, dt2) ∧ InvC dt2 ∧ Fr [14, 15] dt dt2 ∧ ((r = none ∧ (dt2 14 3 = dt 31 3)))) := by
  have hF : Fr [14, 15] dt dt := Fr_refl
  have r1 : 0 ≤ dt 31 3 ∧ dt 31 3 ≤ 40 := InvC_get hI 31 3 rfl rfl
  have r2 : 0 ≤ dt 31 3 ∧ dt 31 3 ≤ 40 := InvC_get hI 31 3 rfl rfl
  refine go_toq PM42 (k := 4) (pc' := 6) (L' := [some (.inr (.inr (some 14))), some (.inr (.inr (some 31)))]) (st' := [.inr (.inr (some 14)), .inl (dt 31 3), .inr (.inr (some 14))]) (w' := (SH, dt)) rfl ?_
  refine go_smpq PM42 (L' := [some (.inr (.inr (some 14))), some (.inr (.inr (some 31)))]) (st' := [.inl 40, .inl (dt 31 3), .inr (.inr (some 14))]) (w' := (SH, dt)) rfl rfl (s_gfc rfl rfl rfl (hI.2 14 0 rfl)) ?_
  refine go_callq PM42 PM266 (Q' := _) rfl rfl rfl rfl (sp_J9_min_7cf53 L xs sio (d + 0) dt hI  (dt 31 3) (by first | exact bnd r2 (by decide) (by decide) | exact ⟨by fail, by fail⟩) 40 ⟨by decide, by decide⟩ ) ?_
  rintro _ _ ⟨rfl, h3⟩
  refine ⟨rfl, ?_⟩
  rcases h3 with ⟨v_h3, rfl, h3r, h3⟩
  have hI4 : InvC (u2 dt 14 3 v_h3) := InvC_u2 hI (lo := 0) (hi := 40) rfl rfl rfl (by first | exact bnd1 h3r (by decide) | omega) (by first | exact bnd2 h3r (by decide) | omega)
  have hF5 : Fr [14, 15] dt (u2 dt 14 3 v_h3) := Fr_u2 hF (by decide)
  have w6 : (u2 dt 14 3 v_h3) 14 3 = v_h3 := rfl
  refine go_smpq PM42 (L' := [some (.inr (.inr (some 14))), some (.inr (.inr (some 31)))]) (st' := []) (w' := (SH, (u2 dt 14 3 v_h3))) rfl rfl (s_pf rfl rfl rfl rfl ⟨by omega, by omega⟩) ?_
  refine go_toq PM42 (k := 12) (pc' := 35) (L' := [some (.inr (.inr (some 14))), some (.inr (.inr (some 31)))]) (st' := [.inl 80, .inl 80, .inl 0, .inr (.inr (some 15)), .inl 0, .inr (.inr (some 32))]) (w' := (SH, (u2 dt 14 3 v_h3))) rfl ?_
  refine go_callq PM42 PM266 (Q' := _) rfl rfl rfl rfl (sp_J9_min_7cf53 L xs sio (d + 0) (u2 dt 14 3 v_h3) hI4  80 ⟨by decide, by decide⟩ 80 ⟨by decide, by decide⟩ ) ?_
  rintro _ _ ⟨rfl, h7⟩
  refine ⟨rfl, ?_⟩
  rcases h7 with ⟨v_h7, rfl, h7r, h7⟩
  have hI8 : InvC (am_cp (u2 dt 14 3 v_h3) 32 15 0 0 (v_h7).toNat) := InvC_cp hI4 (fun _ _ => rfl) (fun _ _ => rfl) (fun _ => rfl)
  have hF9 : Fr [14, 15] dt (am_cp (u2 dt 14 3 v_h3) 32 15 0 0 (v_h7).toNat) := Fr_cp hF5 (by decide)
  have w10 : (am_cp (u2 dt 14 3 v_h3) 32 15 0 0 (v_h7).toNat) 14 3 = (u2 dt 14 3 v_h3) 14 3 := rfl
  refine go_cpyq PM42 (L' := [some (.inr (.inr (some 14))), some (.inr (.inr (some 31)))]) (st' := []) (w' := (SH, (am_cp (u2 dt 14 3 v_h3) 32 15 0 0 (v_h7).toNat))) rfl rfl (s_cpy (n0 := 80) (n1 := 80) rfl rfl ⟨⟨by omega, by omega, by omega⟩, by omega, by omega, by decide⟩) ?_
  refine go_retq PM42 (k := 0) (r := none) (w1 := (SH, (am_cp (u2 dt 14 3 v_h3) 32 15 0 0 (v_h7).toNat))) rfl ?_
  exact ⟨(am_cp (u2 dt 14 3 v_h3) 32 15 0 0 (v_h7).toNat), rfl, hI8, hF9, ⟨rfl, by first | exact True.intro | with_reducible assumption | rfl | omega | trivial⟩⟩
theorem sp_X2_copyFrom_16 (L : Nat) (xs : Nat → Int32) (sio : Option Nat) (d : Nat) (dt : Nat → Nat → Int) (hI : InvC dt)    : GO (am_XX L xs sio) (d + 1) 42 0 [some (.inr (.inr (some 16))), some (.inr (.inr (some 33)))] [] (SH, dt) (fun r w2 => ∃ dt2 : Nat → Nat → Int, w2 = (SH, dt2) ∧ InvC dt2 ∧ Fr [16, 17] dt dt2 ∧ ((r = none ∧ (dt2 16 3 = dt 33 3)))) := by
  have hF : Fr [16, 17] dt dt := Fr_refl
  have r1 : 0 ≤ dt 33 3 ∧ dt 33 3 ≤ 20 := InvC_get hI 33 3 rfl rfl
  have r2 : 0 ≤ dt 33 3 ∧ dt 33 3 ≤ 20 := InvC_get hI 33 3 rfl rfl
  refine go_toq PM42 (k := 4) (pc' := 6) (L' := [some (.inr (.inr (some 16))), some (.inr (.inr (some 33)))]) (st' := [.inr (.inr (some 16)), .inl (dt 33 3), .inr (.inr (some 16))]) (w' := (SH, dt)) rfl ?_
  refine go_smpq PM42 (L' := [some (.inr (.inr (some 16))), some (.inr (.inr (some 33)))]) (st' := [.inl 20, .inl (dt 33 3), .inr (.inr (some 16))]) (w' := (SH, dt)) rfl rfl (s_gfc rfl rfl rfl (hI.2 16 0 rfl)) ?_
  refine go_callq PM42 PM266 (Q' := _) rfl rfl rfl rfl (sp_J9_min_7cf53 L xs sio (d + 0) dt hI  (dt 33 3) (by first | exact bnd r2 (by decide) (by decide) | exact ⟨by fail, by fail⟩) 20 ⟨by decide, by decide⟩ ) ?_
  rintro _ _ ⟨rfl, h3⟩
  refine ⟨rfl, ?_⟩
  rcases h3 with ⟨v_h3, rfl, h3r, h3⟩
  have hI4 : InvC (u2 dt 16 3 v_h3) := InvC_u2 hI (lo := 0) (hi := 20) rfl rfl rfl (by first | exact bnd1 h3r (by decide) | omega) (by first | exact bnd2 h3r (by decide) | omega)
  have hF5 : Fr [16, 17] dt (u2 dt 16 3 v_h3) := Fr_u2 hF (by decide)
  have w6 : (u2 dt 16 3 v_h3) 16 3 = v_h3 := rfl
  refine go_smpq PM42 (L' := [some (.inr (.inr (some 16))), some (.inr (.inr (some 33)))]) (st' := []) (w' := (SH, (u2 dt 16 3 v_h3))) rfl rfl (s_pf rfl rfl rfl rfl ⟨by omega, by omega⟩) ?_
  refine go_toq PM42 (k := 12) (pc' := 35) (L' := [some (.inr (.inr (some 16))), some (.inr (.inr (some 33)))]) (st' := [.inl 40, .inl 40, .inl 0, .inr (.inr (some 17)), .inl 0, .inr (.inr (some 34))]) (w' := (SH, (u2 dt 16 3 v_h3))) rfl ?_
  refine go_callq PM42 PM266 (Q' := _) rfl rfl rfl rfl (sp_J9_min_7cf53 L xs sio (d + 0) (u2 dt 16 3 v_h3) hI4  40 ⟨by decide, by decide⟩ 40 ⟨by decide, by decide⟩ ) ?_
  rintro _ _ ⟨rfl, h7⟩
  refine ⟨rfl, ?_⟩
  rcases h7 with ⟨v_h7, rfl, h7r, h7⟩
  have hI8 : InvC (am_cp (u2 dt 16 3 v_h3) 34 17 0 0 (v_h7).toNat) := InvC_cp hI4 (fun _ _ => rfl) (fun _ _ => rfl) (fun _ => rfl)
  have hF9 : Fr [16, 17] dt (am_cp (u2 dt 16 3 v_h3) 34 17 0 0 (v_h7).toNat) := Fr_cp hF5 (by decide)
  have w10 : (am_cp (u2 dt 16 3 v_h3) 34 17 0 0 (v_h7).toNat) 16 3 = (u2 dt 16 3 v_h3) 16 3 := rfl
  refine go_cpyq PM42 (L' := [some (.inr (.inr (some 16))), some (.inr (.inr (some 33)))]) (st' := []) (w' := (SH, (am_cp (u2 dt 16 3 v_h3) 34 17 0 0 (v_h7).toNat))) rfl rfl (s_cpy (n0 := 40) (n1 := 40) rfl rfl ⟨⟨by omega, by omega, by omega⟩, by omega, by omega, by decide⟩) ?_
  refine go_retq PM42 (k := 0) (r := none) (w1 := (SH, (am_cp (u2 dt 16 3 v_h3) 34 17 0 0 (v_h7).toNat))) rfl ?_
  exact ⟨(am_cp (u2 dt 16 3 v_h3) 34 17 0 0 (v_h7).toNat), rfl, hI8, hF9, ⟨rfl, by first | exact True.intro | with_reducible assumption | rfl | omega | trivial⟩⟩
theorem sp_X2_copyFrom_27 (L : Nat) (xs : Nat → Int32) (sio : Option Nat) (d : Nat) (dt : Nat → Nat → Int) (hI : InvC dt)    : GO (am_XX L xs sio) (d + 1) 42 0 [some (.inr (.inr (some 27))), some (.inr (.inr (some 10)))] [] (SH, dt) (fun r w2 => ∃ dt2 : Nat → Nat → Int, w2 = (SH, dt2) ∧ InvC dt2 ∧ Fr [27, 28] dt dt2 ∧ ((r = none ∧ (dt2 27 3 = dt 10 3)))) := by
  have hF : Fr [27, 28] dt dt := Fr_refl
  have r1 : 0 ≤ dt 10 3 ∧ dt 10 3 ≤ 40 := InvC_get hI 10 3 rfl rfl
  have r2 : 0 ≤ dt 10 3 ∧ dt 10 3 ≤ 40 := InvC_get hI 10 3 rfl rfl
  refine go_toq PM42 (k := 4) (pc' := 6) (L' := [some (.inr (.inr (some 27))), some (.inr (.inr (some 10)))]) (st' := [.inr (.inr (some 27)), .inl (dt 10 3), .inr (.inr (some 27))]) (w' := (SH, dt)) rfl ?_
  refine go_smpq PM42 (L' := [some (.inr (.inr (some 27))), some (.inr (.inr (some 10)))]) (st' := [.inl 40, .inl (dt 10 3), .inr (.inr (some 27))]) (w' := (SH, dt)) rfl rfl (s_gfc rfl rfl rfl (hI.2 27 0 rfl)) ?_
  refine go_callq PM42 PM266 (Q' := _) rfl rfl rfl rfl (sp_J9_min_7cf53 L xs sio (d + 0) dt hI  (dt 10 3) (by first | exact bnd r2 (by decide) (by decide) | exact ⟨by omega, by omega⟩) 40 ⟨by decide, by decide⟩ ) ?_
  rintro _ _ ⟨rfl, h3⟩
  refine ⟨rfl, ?_⟩
  rcases h3 with ⟨v_h3, rfl, h3r, h3⟩
  have hI4 : InvC (u2 dt 27 3 v_h3) := InvC_u2 hI (lo := 0) (hi := 40) rfl rfl rfl (by first | exact bnd1 h3r (by decide) | omega) (by first | exact bnd2 h3r (by decide) | omega)
  have hF5 : Fr [27, 28] dt (u2 dt 27 3 v_h3) := Fr_u2 hF (by decide)
  have w6 : (u2 dt 27 3 v_h3) 27 3 = v_h3 := rfl
  refine go_smpq PM42 (L' := [some (.inr (.inr (some 27))), some (.inr (.inr (some 10)))]) (st' := []) (w' := (SH, (u2 dt 27 3 v_h3))) rfl rfl (s_pf rfl rfl rfl rfl ⟨by omega, by omega⟩) ?_
  refine go_toq PM42 (k := 12) (pc' := 35) (L' := [some (.inr (.inr (some 27))), some (.inr (.inr (some 10)))]) (st' := [.inl 160, .inl 160, .inl 0, .inr (.inr (some 28)), .inl 0, .inr (.inr (some 11))]) (w' := (SH, (u2 dt 27 3 v_h3))) rfl ?_
  refine go_callq PM42 PM266 (Q' := _) rfl rfl rfl rfl (sp_J9_min_7cf53 L xs sio (d + 0) (u2 dt 27 3 v_h3) hI4  160 ⟨by decide, by decide⟩ 160 ⟨by decide, by decide⟩ ) ?_
  rintro _ _ ⟨rfl, h7⟩
  refine ⟨rfl, ?_⟩
  rcases h7 with ⟨v_h7, rfl, h7r, h7⟩
  have hI8 : InvC (am_cp (u2 dt 27 3 v_h3) 11 28 0 0 (v_h7).toNat) := InvC_cp hI4 (fun _ _ => rfl) (fun _ _ => rfl) (fun _ => rfl)
  have hF9 : Fr [27, 28] dt (am_cp (u2 dt 27 3 v_h3) 11 28 0 0 (v_h7).toNat) := Fr_cp hF5 (by decide)
  have w10 : (am_cp (u2 dt 27 3 v_h3) 11 28 0 0 (v_h7).toNat) 27 3 = (u2 dt 27 3 v_h3) 27 3 := rfl
  refine go_cpyq PM42 (L' := [some (.inr (.inr (some 27))), some (.inr (.inr (some 10)))]) (st' := []) (w' := (SH, (am_cp (u2 dt 27 3 v_h3) 11 28 0 0 (v_h7).toNat))) rfl rfl (s_cpy (n0 := 160) (n1 := 160) rfl rfl ⟨⟨by omega, by omega, by omega⟩, by omega, by omega, by decide⟩) ?_
  refine go_retq PM42 (k := 0) (r := none) (w1 := (SH, (am_cp (u2 dt 27 3 v_h3) 11 28 0 0 (v_h7).toNat))) rfl ?_
  exact ⟨(am_cp (u2 dt 27 3 v_h3) 11 28 0 0 (v_h7).toNat), rfl, hI8, hF9, ⟨rfl, by first | exact True.intro | with_reducible assumption | rfl | omega | trivial⟩⟩
theorem sp_X2_copyFrom_29 (L : Nat) (xs : Nat → Int32) (sio : Option Nat) (d : Nat) (dt : Nat → Nat → Int) (hI : InvC dt)    : GO (am_XX L xs sio) (d + 1) 42 0 [some (.inr (.inr (some 29))), some (.inr (.inr (some 12)))] [] (SH, dt) (fun r w2 => ∃ dt2 : Nat → Nat → Int, w2 = (SH, dt2) ∧ InvC dt2 ∧ Fr [29, 30] dt dt2 ∧ ((r = none ∧ (dt2 29 3 = dt 12 3)))) := by
  have hF : Fr [29, 30] dt dt := Fr_refl
  have r1 : 0 ≤ dt 12 3 ∧ dt 12 3 ≤ 300 := InvC_get hI 12 3 rfl rfl
  have r2 : 0 ≤ dt 12 3 ∧ dt 12 3 ≤ 300 := InvC_get hI 12 3 rfl rfl
  refine go_toq PM42 (k := 4) (pc' := 6) (L' := [some (.inr (.inr (some 29))), some (.inr (.inr (some 12)))]) (st' := [.inr (.inr (some 29)), .inl (dt 12 3), .inr (.inr (some 29))]) (w' := (SH, dt)) rfl ?_
  refine go_smpq PM42 (L' := [some (.inr (.inr (some 29))), some (.inr (.inr (some 12)))]) (st' := [.inl 300, .inl (dt 12 3), .inr (.inr (some 29))]) (w' := (SH, dt)) rfl rfl (s_gfc rfl rfl rfl (hI.2 29 0 rfl)) ?_
  refine go_callq PM42 PM266 (Q' := _) rfl rfl rfl rfl (sp_J9_min_7cf53 L xs sio (d + 0) dt hI  (dt 12 3) (by first | exact bnd r2 (by decide) (by decide) | exact ⟨by fail, by fail⟩) 300 ⟨by decide, by decide⟩ ) ?_
  rintro _ _ ⟨rfl, h3⟩
  refine ⟨rfl, ?_⟩
  rcases h3 with ⟨v_h3, rfl, h3r, h3⟩
  have hI4 : InvC (u2 dt 29 3 v_h3) := InvC_u2 hI (lo := 0) (hi := 300) rfl rfl rfl (by first | exact bnd1 h3r (by decide) | omega) (by first | exact bnd2 h3r (by decide) | omega)
  have hF5 : Fr [29, 30] dt (u2 dt 29 3 v_h3) := Fr_u2 hF (by decide)
  have w6 : (u2 dt 29 3 v_h3) 29 3 = v_h3 := rfl
  refine go_smpq PM42 (L' := [some (.inr (.inr (some 29))), some (.inr (.inr (some 12)))]) (st' := []) (w' := (SH, (u2 dt 29 3 v_h3))) rfl rfl (s_pf rfl rfl rfl rfl ⟨by omega, by omega⟩) ?_
  refine go_toq PM42 (k := 12) (pc' := 35) (L' := [some (.inr (.inr (some 29))), some (.inr (.inr (some 12)))]) (st' := [.inl 1800, .inl 1800, .inl 0, .inr (.inr (some 30)), .inl 0, .inr (.inr (some 13))]) (w' := (SH, (u2 dt 29 3 v_h3))) rfl ?_
  refine go_callq PM42 PM266 (Q' := _) rfl rfl rfl rfl (sp_J9_min_7cf53 L xs sio (d + 0) (u2 dt 29 3 v_h3) hI4  1800 ⟨by decide, by decide⟩ 1800 ⟨by decide, by decide⟩ ) ?_
  rintro _ _ ⟨rfl, h7⟩
  refine ⟨rfl, ?_⟩
  rcases h7 with ⟨v_h7, rfl, h7r, h7⟩
  have hI8 : InvC (am_cp (u2 dt 29 3 v_h3) 13 30 0 0 (v_h7).toNat) := InvC_cp hI4 (fun _ _ => rfl) (fun _ _ => rfl) (fun _ => rfl)
  have hF9 : Fr [29, 30] dt (am_cp (u2 dt 29 3 v_h3) 13 30 0 0 (v_h7).toNat) := Fr_cp hF5 (by decide)
  have w10 : (am_cp (u2 dt 29 3 v_h3) 13 30 0 0 (v_h7).toNat) 29 3 = (u2 dt 29 3 v_h3) 29 3 := rfl
  refine go_cpyq PM42 (L' := [some (.inr (.inr (some 29))), some (.inr (.inr (some 12)))]) (st' := []) (w' := (SH, (am_cp (u2 dt 29 3 v_h3) 13 30 0 0 (v_h7).toNat))) rfl rfl (s_cpy (n0 := 1800) (n1 := 1800) rfl rfl ⟨⟨by omega, by omega, by omega⟩, by omega, by omega, by decide⟩) ?_
  refine go_retq PM42 (k := 0) (r := none) (w1 := (SH, (am_cp (u2 dt 29 3 v_h3) 13 30 0 0 (v_h7).toNat))) rfl ?_
  exact ⟨(am_cp (u2 dt 29 3 v_h3) 13 30 0 0 (v_h7).toNat), rfl, hI8, hF9, ⟨rfl, by first | exact True.intro | with_reducible assumption | rfl | omega | trivial⟩⟩
theorem sp_X2_copyFrom_31 (L : Nat) (xs : Nat → Int32) (sio : Option Nat) (d : Nat) (dt : Nat → Nat → Int) (hI : InvC dt)    : GO (am_XX L xs sio) (d + 1) 42 0 [some (.inr (.inr (some 31))), some (.inr (.inr (some 14)))] [] (SH, dt) (fun r w2 => ∃ dt2 : Nat → Nat → Int, w2 = (SH, dt2) ∧ InvC dt2 ∧ Fr [31, 32] dt dt2 ∧ ((r = none ∧ (dt2 31 3 = dt 14 3)))) := by
  have hF : Fr [31, 32] dt dt := Fr_refl
  have r1 : 0 ≤ dt 14 3 ∧ dt 14 3 ≤ 40 := InvC_get hI 14 3 rfl rfl
  have r2 : 0 ≤ dt 14 3 ∧ dt 14 3 ≤ 40 := InvC_get hI 14 3 rfl rfl
  refine go_toq PM42 (k := 4) (pc' := 6) (L' := [some (.inr (.inr (some 31))), some (.inr (.inr (some 14)))]) (st' := [.inr (.inr (some 31)), .inl (dt 14 3), .inr (.inr (some 31))]) (w' := (SH, dt)) rfl ?_
  refine go_smpq PM42 (L' := [some (.inr (.inr (some 31))), some (.inr (.inr (some 14)))]) (st' := [.inl 40, .inl (dt 14 3), .inr (.inr (some 31))]) (w' := (SH, dt)) rfl rfl (s_gfc rfl rfl rfl (hI.2 31 0 rfl)) ?_
  refine go_callq PM42 PM266 (Q' := _) rfl rfl rfl rfl (sp_J9_min_7cf53 L xs sio (d + 0) dt hI  (dt 14 3) (by first | exact bnd r2 (by decide) (by decide) | exact ⟨by fail, by fail⟩) 40 ⟨by decide, by decide⟩ ) ?_
  rintro _ _ ⟨rfl, h3⟩
  refine ⟨rfl, ?_⟩
  rcases h3 with ⟨v_h3, rfl, h3r, h3⟩
  have hI4 : InvC (u2 dt 31 3 v_h3) := InvC_u2 hI (lo := 0) (hi := 40) rfl rfl rfl (by first | exact bnd1 h3r (by decide) | omega) (by first | exact bnd2 h3r (by decide) | omega)
  have hF5 : Fr [31, 32] dt (u2 dt 31 3 v_h3) := Fr_u2 hF (by decide)
  have w6 : (u2 dt 31 3 v_h3) 31 3 = v_h3 := rfl
  refine go_smpq PM42 (L' := [some (.inr (.inr (some 31))), some (.inr (.inr (some 14)))]) (st' := []) (w' := (SH, (u2 dt 31 3 v_h3))) rfl rfl (s_pf rfl rfl rfl rfl ⟨by omega, by omega⟩) ?_
  refine go_toq PM42 (k := 12) (pc' := 35) (L' := [some (.inr (.inr (some 31))), some (.inr (.inr (some 14)))]) (st' := [.inl 80, .inl 80, .inl 0, .inr (.inr (some 32)), .inl 0, .inr (.inr (some 15))]) (w' := (SH, (u2 dt 31 3 v_h3))) rfl ?_
  refine go_callq PM42 PM266 (Q' := _) rfl rfl rfl rfl (sp_J9_min_7cf53 L xs sio (d + 0) (u2 dt 31 3 v_h3) hI4  80 ⟨by decide, by decide⟩ 80 ⟨by decide, by decide⟩ ) ?_
  rintro _ _ ⟨rfl, h7⟩
  refine ⟨rfl, ?_⟩
  rcases h7 with ⟨v_h7, rfl, h7r, h7⟩
  have hI8 : InvC (am_cp (u2 dt 31 3 v_h3) 15 32 0 0 (v_h7).toNat) := InvC_cp hI4 (fun _ _ => rfl) (fun _ _ => rfl) (fun _ => rfl)
  have hF9 : Fr [31, 32] dt (am_cp (u2 dt 31 3 v_h3) 15 32 0 0 (v_h7).toNat) := Fr_cp hF5 (by decide)
  have w10 : (am_cp (u2 dt 31 3 v_h3) 15 32 0 0 (v_h7).toNat) 31 3 = (u2 dt 31 3 v_h3) 31 3 := rfl
  refine go_cpyq PM42 (L' := [some (.inr (.inr (some 31))), some (.inr (.inr (some 14)))]) (st' := []) (w' := (SH, (am_cp (u2 dt 31 3 v_h3) 15 32 0 0 (v_h7).toNat))) rfl rfl (s_cpy (n0 := 80) (n1 := 80) rfl rfl ⟨⟨by omega, by omega, by omega⟩, by omega, by omega, by decide⟩) ?_
  refine go_retq PM42 (k := 0) (r := none) (w1 := (SH, (am_cp (u2 dt 31 3 v_h3) 15 32 0 0 (v_h7).toNat))) rfl ?_
  exact ⟨(am_cp (u2 dt 31 3 v_h3) 15 32 0 0 (v_h7).toNat), rfl, hI8, hF9, ⟨rfl, by first | exact True.intro | with_reducible assumption | rfl | omega | trivial⟩⟩
theorem sp_X2_copyFrom_33 (L : Nat) (xs : Nat → Int32) (sio : Option Nat) (d : Nat) (dt : Nat → Nat → Int) (hI : InvC dt)    : GO (am_XX L xs sio) (d + 1) 42 0 [some (.inr (.inr (some 33))), some (.inr (.inr (some 16)))] [] (SH, dt) (fun r w2 => ∃ dt2 : Nat → Nat → Int, w2 = (SH, dt2) ∧ InvC dt2 ∧ Fr [33, 34] dt dt2 ∧ ((r = none ∧ (dt2 33 3 = dt 16 3)))) := by
  have hF : Fr [33, 34] dt dt := Fr_refl
  have r1 : 0 ≤ dt 16 3 ∧ dt 16 3 ≤ 20 := InvC_get hI 16 3 rfl rfl
  have r2 : 0 ≤ dt 16 3 ∧ dt 16 3 ≤ 20 := InvC_get hI 16 3 rfl rfl
  refine go_toq PM42 (k := 4) (pc' := 6) (L' := [some (.inr (.inr (some 33))), some (.inr (.inr (some 16)))]) (st' := [.inr (.inr (some 33)), .inl (dt 16 3), .inr (.inr (some 33))]) (w' := (SH, dt)) rfl ?_
  refine go_smpq PM42 (L' := [some (.inr (.inr (some 33))), some (.inr (.inr (some 16)))]) (st' := [.inl 20, .inl (dt 16 3), .inr (.inr (some 33))]) (w' := (SH, dt)) rfl rfl (s_gfc rfl rfl rfl (hI.2 33 0 rfl)) ?_
  refine go_callq PM42 PM266 (Q' := _) rfl rfl rfl rfl (sp_J9_min_7cf53 L xs sio (d + 0) dt hI  (dt 16 3) (by first | exact bnd r2 (by decide) (by decide) | exact ⟨by fail, by fail⟩) 20 ⟨by decide, by decide⟩ ) ?_
  rintro _ _ ⟨rfl, h3⟩
  refine ⟨rfl, ?_⟩
  rcases h3 with ⟨v_h3, rfl, h3r, h3⟩
  have hI4 : InvC (u2 dt 33 3 v_h3) := InvC_u2 hI (lo := 0) (hi := 20) rfl rfl rfl (by first | exact bnd1 h3r (by decide) | omega) (by first | exact bnd2 h3r (by decide) | omega)
  have hF5 : Fr [33, 34] dt (u2 dt 33 3 v_h3) := Fr_u2 hF (by decide)
  have w6 : (u2 dt 33 3 v_h3) 33 3 = v_h3 := rfl
  refine go_smpq PM42 (L' := [some (.inr (.inr (some 33))), some (.inr (.inr (some 16)))]) (st' := []) (w' := (SH, (u2 dt 33 3 v_h3))) rfl rfl (s_pf rfl rfl rfl rfl ⟨by omega, by omega⟩) ?_
  refine go_toq PM42 (k := 12) (pc' := 35) (L' := [some (.inr (.inr (some 33))), some (.inr (.inr (some 16)))]) (st' := [.inl 40, .inl 40, .inl 0, .inr (.inr (some 34)), .inl 0, .inr (.inr (some 17))]) (w' := (SH, (u2 dt 33 3 v_h3))) rfl ?_
  refine go_callq PM42 PM266 (Q' := _) rfl rfl rfl rfl (sp_J9_min_7cf53 L xs sio (d + 0) (u2 dt 33 3 v_h3) hI4  40 ⟨by decide, by decide⟩ 40 ⟨by decide, by decide⟩ ) ?_
  rintro _ _ ⟨rfl, h7⟩
  refine ⟨rfl, ?_⟩
  rcases h7 with ⟨v_h7, rfl, h7r, h7⟩
  have hI8 : InvC (am_cp (u2 dt 33 3 v_h3) 17 34 0 0 (v_h7).toNat) := InvC_cp hI4 (fun _ _ => rfl) (fun _ _ => rfl) (fun _ => rfl)
  have hF9 : Fr [33, 34] dt (am_cp (u2 dt 33 3 v_h3) 17 34 0 0 (v_h7).toNat) := Fr_cp hF5 (by decide)
  have w10 : (am_cp (u2 dt 33 3 v_h3) 17 34 0 0 (v_h7).toNat) 33 3 = (u2 dt 33 3 v_h3) 33 3 := rfl
  refine go_cpyq PM42 (L' := [some (.inr (.inr (some 33))), some (.inr (.inr (some 16)))]) (st' := []) (w' := (SH, (am_cp (u2 dt 33 3 v_h3) 17 34 0 0 (v_h7).toNat))) rfl rfl (s_cpy (n0 := 40) (n1 := 40) rfl rfl ⟨⟨by omega, by omega, by omega⟩, by omega, by omega, by decide⟩) ?_
  refine go_retq PM42 (k := 0) (r := none) (w1 := (SH, (am_cp (u2 dt 33 3 v_h3) 17 34 0 0 (v_h7).toNat))) rfl ?_
  exact ⟨(am_cp (u2 dt 33 3 v_h3) 17 34 0 0 (v_h7).toNat), rfl, hI8, hF9, ⟨rfl, by first | exact True.intro | with_reducible assumption | rfl | omega | trivial⟩⟩
