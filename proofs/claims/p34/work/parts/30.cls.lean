theorem sp_J9_max_7cf53 (X : am_X) (d : Nat) (dt : Nat → Nat → Int) (hI : InvC dt)  (a : Int) (h_a : (-2147483648) ≤ a ∧ a ≤ 2147483647) (b : Int) (h_b : (-2147483648) ≤ b ∧ b ≤ 2147483647)  : GO X (d) 265 0 [some (.inl a), some (.inl b)] [] (SH, dt) (fun r w2 => w2 = (SH, dt) ∧ ((∃ v : Int, r = some (.inl v) ∧ ((-2147483648) ≤ v ∧ v ≤ 2147483647) ∧ (a ≤ v ∧ b ≤ v ∧ (v = a ∨ v = b))))) := by
  refine go_if (k := 3) (p1 := 9) (p2 := 5) (L' := [some (.inl a), some (.inl b)]) (st' := []) (w' := (SH, dt)) (fun _ => rfl) (c_lt (a := a) (b := b) ⟨by omega, by omega⟩ ⟨by omega, by omega⟩) (fun c1 => ?_) (fun c1 => ?_)
  · skip
    refine go_ret (k := 2) (r := some (.inl b)) (w1 := (SH, dt)) (fun _ => rfl) ?_
    exact ⟨rfl, ⟨_, rfl, ⟨by omega, by omega⟩, by first | trivial | omega⟩⟩
  · skip
    refine go_ret (k := 3) (r := some (.inl a)) (w1 := (SH, dt)) (fun _ => rfl) ?_
    exact ⟨rfl, ⟨_, rfl, ⟨by omega, by omega⟩, by first | trivial | omega⟩⟩
theorem sp_J9_min_7cf53 (X : am_X) (d : Nat) (dt : Nat → Nat → Int) (hI : InvC dt)  (a : Int) (h_a : (-2147483648) ≤ a ∧ a ≤ 2147483647) (b : Int) (h_b : (-2147483648) ≤ b ∧ b ≤ 2147483647)  : GO X (d) 266 0 [some (.inl a), some (.inl b)] [] (SH, dt) (fun r w2 => w2 = (SH, dt) ∧ ((∃ v : Int, r = some (.inl v) ∧ ((-2147483648) ≤ v ∧ v ≤ 2147483647) ∧ (v ≤ a ∧ v ≤ b ∧ (v = a ∨ v = b))))) := by
  refine go_if (k := 3) (p1 := 9) (p2 := 5) (L' := [some (.inl a), some (.inl b)]) (st' := []) (w' := (SH, dt)) (fun _ => rfl) (c_gt (a := a) (b := b) ⟨by omega, by omega⟩ ⟨by omega, by omega⟩) (fun c1 => ?_) (fun c1 => ?_)
  · skip
    refine go_ret (k := 2) (r := some (.inl b)) (w1 := (SH, dt)) (fun _ => rfl) ?_
    exact ⟨rfl, ⟨_, rfl, ⟨by omega, by omega⟩, by first | trivial | omega⟩⟩
  · skip
    refine go_ret (k := 3) (r := some (.inl a)) (w1 := (SH, dt)) (fun _ => rfl) ?_
    exact ⟨rfl, ⟨_, rfl, ⟨by omega, by omega⟩, by first | trivial | omega⟩⟩
theorem sp_X5_within (X : am_X) (d : Nat) (dt : Nat → Nat → Int) (hI : InvC dt)  (value : Int) (h_value : (-2147483648) ≤ value ∧ value ≤ 2147483647) (low : Int) (h_low : (-2147483648) ≤ low ∧ low ≤ 2147483647) (high : Int) (h_high : (-2147483648) ≤ high ∧ high ≤ 2147483647)  : GO X (d) 100 0 [some (.inl value), some (.inl low), some (.inl high)] [] (SH, dt) (fun r w2 => w2 = (SH, dt) ∧ ((r = some (.inl 1) ∧ (low ≤ value ∧ value ≤ high)) ∨ (r = some (.inl 0) ∧ (¬ (low ≤ value ∧ value ≤ high))))) := by
  refine go_if (k := 3) (p1 := 14) (p2 := 5) (L' := [some (.inl value), some (.inl low), some (.inl high)]) (st' := []) (w' := (SH, dt)) (fun _ => rfl) (c_lt (a := value) (b := low) ⟨by omega, by omega⟩ ⟨by omega, by omega⟩) (fun c1 => ?_) (fun c1 => ?_)
  · skip
    refine go_ret (k := 2) (r := some (.inl 0)) (w1 := (SH, dt)) (fun _ => rfl) ?_
    exact ⟨rfl, (Or.inr ⟨rfl, by first | trivial | omega⟩)⟩
  · skip
    refine go_if (k := 3) (p1 := 14) (p2 := 10) (L' := [some (.inl value), some (.inl low), some (.inl high)]) (st' := []) (w' := (SH, dt)) (fun _ => rfl) (c_gt (a := value) (b := high) ⟨by omega, by omega⟩ ⟨by omega, by omega⟩) (fun c2 => ?_) (fun c2 => ?_)
    · skip
      refine go_ret (k := 2) (r := some (.inl 0)) (w1 := (SH, dt)) (fun _ => rfl) ?_
      exact ⟨rfl, (Or.inr ⟨rfl, by first | trivial | omega⟩)⟩
    · skip
      refine go_ret (k := 3) (r := some (.inl 1)) (w1 := (SH, dt)) (fun _ => rfl) ?_
      exact ⟨rfl, (Or.inl ⟨rfl, by first | trivial | omega⟩)⟩
theorem sp_X5_isScene (X : am_X) (d : Nat) (dt : Nat → Nat → Int) (hI : InvC dt)  (k : Int) (h_k : (-2147483648) ≤ k ∧ k ≤ 2147483647)  : GO X (d + 1) 102 0 [some (.inl k)] [] (SH, dt) (fun r w2 => w2 = (SH, dt) ∧ ((r = some (.inl 1) ∧ (0 ≤ k ∧ k ≤ 7)) ∨ (r = some (.inl 0) ∧ (¬ (0 ≤ k ∧ k ≤ 7))))) := by
  refine go_to (k := 3) (pc' := 4) (L' := [some (.inl k)]) (st' := [.inl 7, .inl 0, .inl k]) (w' := (SH, dt)) (fun _ => rfl) ?_
  refine go_call (Q' := _) rfl rfl rfl rfl rfl (sp_X5_within X (d + 0) dt hI  k ⟨by omega, by omega⟩ 0 ⟨by omega, by omega⟩ 7 ⟨by omega, by omega⟩ ) ?_
  rintro _ _ ⟨rfl, h1⟩
  refine ⟨rfl, ?_⟩
  rcases h1 with ⟨rfl, h1⟩ | ⟨rfl, h1⟩
  · skip
    refine go_ret (k := 1) (r := some (.inl 1)) (w1 := (SH, dt)) (fun _ => rfl) ?_
    exact ⟨rfl, (Or.inl ⟨rfl, by first | trivial | omega⟩)⟩
  · skip
    refine go_ret (k := 1) (r := some (.inl 0)) (w1 := (SH, dt)) (fun _ => rfl) ?_
    exact ⟨rfl, (Or.inr ⟨rfl, by first | trivial | omega⟩)⟩
theorem sp_X5_isLaw (X : am_X) (d : Nat) (dt : Nat → Nat → Int) (hI : InvC dt)  (k : Int) (h_k : (-2147483648) ≤ k ∧ k ≤ 2147483647)  : GO X (d + 1) 103 0 [some (.inl k)] [] (SH, dt) (fun r w2 => w2 = (SH, dt) ∧ ((r = some (.inl 1) ∧ (0 ≤ k ∧ k ≤ 3)) ∨ (r = some (.inl 0) ∧ (¬ (0 ≤ k ∧ k ≤ 3))))) := by
  refine go_to (k := 3) (pc' := 3) (L' := [some (.inl k)]) (st' := [.inl 3, .inl 0, .inl k]) (w' := (SH, dt)) (fun _ => rfl) ?_
  refine go_call (Q' := _) rfl rfl rfl rfl rfl (sp_X5_within X (d + 0) dt hI  k ⟨by omega, by omega⟩ 0 ⟨by omega, by omega⟩ 3 ⟨by omega, by omega⟩ ) ?_
  rintro _ _ ⟨rfl, h1⟩
  refine ⟨rfl, ?_⟩
  rcases h1 with ⟨rfl, h1⟩ | ⟨rfl, h1⟩
  · skip
    refine go_ret (k := 1) (r := some (.inl 1)) (w1 := (SH, dt)) (fun _ => rfl) ?_
    exact ⟨rfl, (Or.inl ⟨rfl, by first | trivial | omega⟩)⟩
  · skip
    refine go_ret (k := 1) (r := some (.inl 0)) (w1 := (SH, dt)) (fun _ => rfl) ?_
    exact ⟨rfl, (Or.inr ⟨rfl, by first | trivial | omega⟩)⟩
theorem sp_X5_isThing (X : am_X) (d : Nat) (dt : Nat → Nat → Int) (hI : InvC dt)  (k : Int) (h_k : (-2147483648) ≤ k ∧ k ≤ 2147483647)  : GO X (d + 1) 104 0 [some (.inl k)] [] (SH, dt) (fun r w2 => w2 = (SH, dt) ∧ ((r = some (.inl 1) ∧ (0 ≤ k ∧ k ≤ 2)) ∨ (r = some (.inl 0) ∧ (¬ (0 ≤ k ∧ k ≤ 2))))) := by
  refine go_to (k := 3) (pc' := 3) (L' := [some (.inl k)]) (st' := [.inl 2, .inl 0, .inl k]) (w' := (SH, dt)) (fun _ => rfl) ?_
  refine go_call (Q' := _) rfl rfl rfl rfl rfl (sp_X5_within X (d + 0) dt hI  k ⟨by omega, by omega⟩ 0 ⟨by omega, by omega⟩ 2 ⟨by omega, by omega⟩ ) ?_
  rintro _ _ ⟨rfl, h1⟩
  refine ⟨rfl, ?_⟩
  rcases h1 with ⟨rfl, h1⟩ | ⟨rfl, h1⟩
  · skip
    refine go_ret (k := 1) (r := some (.inl 1)) (w1 := (SH, dt)) (fun _ => rfl) ?_
    exact ⟨rfl, (Or.inl ⟨rfl, by first | trivial | omega⟩)⟩
  · skip
    refine go_ret (k := 1) (r := some (.inl 0)) (w1 := (SH, dt)) (fun _ => rfl) ?_
    exact ⟨rfl, (Or.inr ⟨rfl, by first | trivial | omega⟩)⟩
theorem sp_X5_isWho (X : am_X) (d : Nat) (dt : Nat → Nat → Int) (hI : InvC dt)  (k : Int) (h_k : (-2147483648) ≤ k ∧ k ≤ 2147483647)  : GO X (d + 1) 105 0 [some (.inl k)] [] (SH, dt) (fun r w2 => w2 = (SH, dt) ∧ ((r = some (.inl 1) ∧ (0 ≤ k ∧ k ≤ 3)) ∨ (r = some (.inl 0) ∧ (¬ (0 ≤ k ∧ k ≤ 3))))) := by
  refine go_to (k := 3) (pc' := 3) (L' := [some (.inl k)]) (st' := [.inl 3, .inl 0, .inl k]) (w' := (SH, dt)) (fun _ => rfl) ?_
  refine go_call (Q' := _) rfl rfl rfl rfl rfl (sp_X5_within X (d + 0) dt hI  k ⟨by omega, by omega⟩ 0 ⟨by omega, by omega⟩ 3 ⟨by omega, by omega⟩ ) ?_
  rintro _ _ ⟨rfl, h1⟩
  refine ⟨rfl, ?_⟩
  rcases h1 with ⟨rfl, h1⟩ | ⟨rfl, h1⟩
  · skip
    refine go_ret (k := 1) (r := some (.inl 1)) (w1 := (SH, dt)) (fun _ => rfl) ?_
    exact ⟨rfl, (Or.inl ⟨rfl, by first | trivial | omega⟩)⟩
  · skip
    refine go_ret (k := 1) (r := some (.inl 0)) (w1 := (SH, dt)) (fun _ => rfl) ?_
    exact ⟨rfl, (Or.inr ⟨rfl, by first | trivial | omega⟩)⟩
theorem sp_X5_isRule (X : am_X) (d : Nat) (dt : Nat → Nat → Int) (hI : InvC dt)  (k : Int) (h_k : (-2147483648) ≤ k ∧ k ≤ 2147483647)  : GO X (d + 1) 106 0 [some (.inl k)] [] (SH, dt) (fun r w2 => w2 = (SH, dt) ∧ ((r = some (.inl 1) ∧ (0 ≤ k ∧ k ≤ 7)) ∨ (r = some (.inl 0) ∧ (¬ (0 ≤ k ∧ k ≤ 7))))) := by
  refine go_to (k := 3) (pc' := 4) (L' := [some (.inl k)]) (st' := [.inl 7, .inl 0, .inl k]) (w' := (SH, dt)) (fun _ => rfl) ?_
  refine go_call (Q' := _) rfl rfl rfl rfl rfl (sp_X5_within X (d + 0) dt hI  k ⟨by omega, by omega⟩ 0 ⟨by omega, by omega⟩ 7 ⟨by omega, by omega⟩ ) ?_
  rintro _ _ ⟨rfl, h1⟩
  refine ⟨rfl, ?_⟩
  rcases h1 with ⟨rfl, h1⟩ | ⟨rfl, h1⟩
  · skip
    refine go_ret (k := 1) (r := some (.inl 1)) (w1 := (SH, dt)) (fun _ => rfl) ?_
    exact ⟨rfl, (Or.inl ⟨rfl, by first | trivial | omega⟩)⟩
  · skip
    refine go_ret (k := 1) (r := some (.inl 0)) (w1 := (SH, dt)) (fun _ => rfl) ?_
    exact ⟨rfl, (Or.inr ⟨rfl, by first | trivial | omega⟩)⟩
theorem sp_X5_isAnswer (X : am_X) (d : Nat) (dt : Nat → Nat → Int) (hI : InvC dt)  (k : Int) (h_k : (-2147483648) ≤ k ∧ k ≤ 2147483647)  : GO X (d + 1) 107 0 [some (.inl k)] [] (SH, dt) (fun r w2 => w2 = (SH, dt) ∧ ((r = some (.inl 1) ∧ ((-1) ≤ k ∧ k ≤ 3)) ∨ (r = some (.inl 0) ∧ (¬ ((-1) ≤ k ∧ k ≤ 3))))) := by
  refine go_to (k := 3) (pc' := 3) (L' := [some (.inl k)]) (st' := [.inl 3, .inl (-1), .inl k]) (w' := (SH, dt)) (fun _ => rfl) ?_
  refine go_call (Q' := _) rfl rfl rfl rfl rfl (sp_X5_within X (d + 0) dt hI  k ⟨by omega, by omega⟩ (-1) ⟨by omega, by omega⟩ 3 ⟨by omega, by omega⟩ ) ?_
  rintro _ _ ⟨rfl, h1⟩
  refine ⟨rfl, ?_⟩
  rcases h1 with ⟨rfl, h1⟩ | ⟨rfl, h1⟩
  · skip
    refine go_ret (k := 1) (r := some (.inl 1)) (w1 := (SH, dt)) (fun _ => rfl) ?_
    exact ⟨rfl, (Or.inl ⟨rfl, by first | trivial | omega⟩)⟩
  · skip
    refine go_ret (k := 1) (r := some (.inl 0)) (w1 := (SH, dt)) (fun _ => rfl) ?_
    exact ⟨rfl, (Or.inr ⟨rfl, by first | trivial | omega⟩)⟩
theorem sp_X5_cut (X : am_X) (d : Nat) (dt : Nat → Nat → Int) (hI : InvC dt)  (value : Int) (h_value : (-2147483648) ≤ value ∧ value ≤ 2147483647) (most : Int) (h_most : 0 ≤ most ∧ most ≤ 1000000)  : GO X (d + 1) 101 0 [some (.inl value), some (.inl most)] [] (SH, dt) (fun r w2 => w2 = (SH, dt) ∧ ((∃ v : Int, r = some (.inl v) ∧ (0 ≤ v ∧ v ≤ 1000000) ∧ (v ≤ most)))) := by
  refine go_to (k := 3) (pc' := 3) (L' := [some (.inl value), some (.inl most)]) (st' := [.inl value, .inl most, .inl 0]) (w' := (SH, dt)) (fun _ => rfl) ?_
  refine go_call (Q' := _) rfl rfl rfl rfl rfl (sp_J9_min_7cf53 X (d + 0) dt hI  most ⟨by omega, by omega⟩ value ⟨by omega, by omega⟩ ) ?_
  rintro _ _ ⟨rfl, h1⟩
  refine ⟨rfl, ?_⟩
  rcases h1 with ⟨v_h1, rfl, h1r, h1⟩
  refine go_call (Q' := _) rfl rfl rfl rfl rfl (sp_J9_max_7cf53 X (d + 0) dt hI  0 ⟨by omega, by omega⟩ v_h1 ⟨by omega, by omega⟩ ) ?_
  rintro _ _ ⟨rfl, h2⟩
  refine ⟨rfl, ?_⟩
  rcases h2 with ⟨v_h2, rfl, h2r, h2⟩
  refine go_ret (k := 1) (r := some (.inl v_h2)) (w1 := (SH, dt)) (fun _ => rfl) ?_
  exact ⟨rfl, ⟨_, rfl, ⟨by omega, by omega⟩, by first | trivial | omega⟩⟩
theorem sp_X2_has_7 (X : am_X) (d : Nat) (dt : Nat → Nat → Int) (hI : InvC dt)  (row : Int) (h_row : (-2147483648) ≤ row ∧ row ≤ 2147483647)  : GO X (d) 37 0 [some (.inr (.inr (some 7))), some (.inl row)] [] (SH, dt) (fun r w2 => w2 = (SH, dt) ∧ ((r = some (.inl 1) ∧ (0 ≤ row ∧ row < dt 7 3)) ∨ (r = some (.inl 0) ∧ (¬ (0 ≤ row ∧ row < dt 7 3))))) := by
  refine go_if (k := 2) (p1 := 16) (p2 := 4) (L' := [some (.inr (.inr (some 7))), some (.inl row)]) (st' := []) (w' := (SH, dt)) (fun _ => rfl) (z_lt (a := row) ⟨by omega, by omega⟩) (fun c1 => ?_) (fun c1 => ?_)
  · skip
    refine go_ret (k := 2) (r := some (.inl 0)) (w1 := (SH, dt)) (fun _ => rfl) ?_
    exact ⟨rfl, (Or.inr ⟨rfl, by first | trivial | omega⟩)⟩
  · skip
    have r2 : 0 ≤ dt 7 3 ∧ dt 7 3 ≤ 12 := InvC_get hI 7 3 rfl rfl
    refine go_if (k := 4) (p1 := 16) (p2 := 12) (L' := [some (.inr (.inr (some 7))), some (.inl row)]) (st' := []) (w' := (SH, dt)) (fun _ => rfl) (c_ge (a := row) (b := dt 7 3) ⟨by omega, by omega⟩ ⟨by omega, by omega⟩) (fun c3 => ?_) (fun c3 => ?_)
    · skip
      refine go_ret (k := 2) (r := some (.inl 0)) (w1 := (SH, dt)) (fun _ => rfl) ?_
      exact ⟨rfl, (Or.inr ⟨rfl, by first | trivial | omega⟩)⟩
    · skip
      refine go_ret (k := 3) (r := some (.inl 1)) (w1 := (SH, dt)) (fun _ => rfl) ?_
      exact ⟨rfl, (Or.inl ⟨rfl, by first | trivial | omega⟩)⟩
theorem sp_X2_isFull_7 (X : am_X) (d : Nat) (dt : Nat → Nat → Int) (hI : InvC dt)    : GO X (d) 38 0 [some (.inr (.inr (some 7)))] [] (SH, dt) (fun r w2 => w2 = (SH, dt) ∧ ((r = some (.inl 1) ∧ (12 ≤ dt 7 3)) ∨ (r = some (.inl 0) ∧ (¬ (12 ≤ dt 7 3))))) := by
  have r1 : 0 ≤ dt 7 3 ∧ dt 7 3 ≤ 12 := InvC_get hI 7 3 rfl rfl
  refine go_to (k := 3) (pc' := 5) (L' := [some (.inr (.inr (some 7)))]) (st' := [.inr (.inr (some 7)), .inl (dt 7 3)]) (w' := (SH, dt)) (fun _ => rfl) ?_
  refine go_smp (L' := [some (.inr (.inr (some 7)))]) (st' := [.inl 12, .inl (dt 7 3)]) (w' := (SH, dt)) rfl rfl (s_gfc rfl rfl rfl (hI.2 7 0 rfl)) ?_
  refine go_if (k := 1) (p1 := 15) (p2 := 11) (L' := [some (.inr (.inr (some 7)))]) (st' := []) (w' := (SH, dt)) (fun _ => rfl) (c_lt (a := dt 7 3) (b := 12) ⟨by omega, by omega⟩ ⟨by omega, by omega⟩) (fun c2 => ?_) (fun c2 => ?_)
  · skip
    refine go_ret (k := 2) (r := some (.inl 0)) (w1 := (SH, dt)) (fun _ => rfl) ?_
    exact ⟨rfl, (Or.inr ⟨rfl, by first | trivial | omega⟩)⟩
  · skip
    refine go_ret (k := 3) (r := some (.inl 1)) (w1 := (SH, dt)) (fun _ => rfl) ?_
    exact ⟨rfl, (Or.inl ⟨rfl, by first | trivial | omega⟩)⟩
theorem sp_X2_at_7 (X : am_X) (d : Nat) (dt : Nat → Nat → Int) (hI : InvC dt)  (row : Int) (h_row : (-2147483648) ≤ row ∧ row ≤ 2147483647) (column : Int) (h_column : (-2147483648) ≤ column ∧ column ≤ 2147483647)  : GO X (d + 1) 39 0 [some (.inr (.inr (some 7))), some (.inl row), some (.inl column)] [] (SH, dt) (fun r w2 => w2 = (SH, dt) ∧ ((∃ v : Int, r = some (.inl v) ∧ ((-2147483648) ≤ v ∧ v ≤ 2147483647) ∧ True))) := by
  have r1 : 0 ≤ dt 7 3 ∧ dt 7 3 ≤ 12 := InvC_get hI 7 3 rfl rfl
  refine go_to (k := 2) (pc' := 2) (L' := [some (.inr (.inr (some 7))), some (.inl row), some (.inl column)]) (st' := [.inl row, .inr (.inr (some 7))]) (w' := (SH, dt)) (fun _ => rfl) ?_
  refine go_call (Q' := _) rfl rfl rfl rfl rfl (sp_X2_has_7 X (d + 0) dt hI  row ⟨by omega, by omega⟩ ) ?_
  rintro _ _ ⟨rfl, h2⟩
  refine ⟨rfl, ?_⟩
  rcases h2 with ⟨rfl, h2⟩ | ⟨rfl, h2⟩
  · skip
    refine go_if (k := 3) (p1 := 36) (p2 := 12) (L' := [some (.inr (.inr (some 7))), some (.inl row), some (.inl column)]) (st' := []) (w' := (SH, dt)) (fun _ => rfl) (z_lt (a := column) ⟨by omega, by omega⟩) (fun c3 => ?_) (fun c3 => ?_)
    · skip
      refine go_ret (k := 2) (r := some (.inl (-1))) (w1 := (SH, dt)) (fun _ => rfl) ?_
      exact ⟨rfl, ⟨_, rfl, ⟨by omega, by omega⟩, trivial⟩⟩
    · skip
      refine go_to (k := 2) (pc' := 14) (L' := [some (.inr (.inr (some 7))), some (.inl row), some (.inl column)]) (st' := [.inr (.inr (some 7)), .inl column]) (w' := (SH, dt)) (fun _ => rfl) ?_
      refine go_smp (L' := [some (.inr (.inr (some 7))), some (.inl row), some (.inl column)]) (st' := [.inl 5, .inl column]) (w' := (SH, dt)) rfl rfl (s_gfc rfl rfl rfl (hI.2 7 1 rfl)) ?_
      refine go_if (k := 1) (p1 := 36) (p2 := 20) (L' := [some (.inr (.inr (some 7))), some (.inl row), some (.inl column)]) (st' := []) (w' := (SH, dt)) (fun _ => rfl) (c_ge (a := column) (b := 5) ⟨by omega, by omega⟩ ⟨by omega, by omega⟩) (fun c4 => ?_) (fun c4 => ?_)
      · skip
        refine go_ret (k := 2) (r := some (.inl (-1))) (w1 := (SH, dt)) (fun _ => rfl) ?_
        exact ⟨rfl, ⟨_, rfl, ⟨by omega, by omega⟩, trivial⟩⟩
      · skip
        refine go_to (k := 4) (pc' := 26) (L' := [some (.inr (.inr (some 7))), some (.inl row), some (.inl column)]) (st' := [.inr (.inr (some 7)), .inl row, .inr (.inr (some 8))]) (w' := (SH, dt)) (fun _ => rfl) ?_
        refine go_smp (L' := [some (.inr (.inr (some 7))), some (.inl row), some (.inl column)]) (st' := [.inl 5, .inl row, .inr (.inr (some 8))]) (w' := (SH, dt)) rfl rfl (s_gfc rfl rfl rfl (hI.2 7 1 rfl)) ?_
        refine go_to (k := 3) (pc' := 32) (L' := [some (.inr (.inr (some 7))), some (.inl row), some (.inl column)]) (st' := [.inl ((row * 5) + column), .inr (.inr (some 8))]) (w' := (SH, dt)) (fun _ => rfl) ?_
        have r5 : (-2147483648) ≤ dt 8 (((row * 5) + column).toNat) ∧ dt 8 (((row * 5) + column).toNat) ≤ 2147483647 := InvC_get hI 8 (((row * 5) + column).toNat) rfl rfl
        refine go_smp (L' := [some (.inr (.inr (some 7))), some (.inl row), some (.inl column)]) (st' := [.inl (dt 8 (((row * 5) + column).toNat))]) (w' := (SH, dt)) rfl rfl (s_iald (n := 60) (f := dt 8) rfl ⟨by omega, by omega⟩) ?_
        refine go_ret (k := 2) (r := some (.inl (dt 8 (((row * 5) + column).toNat)))) (w1 := (SH, dt)) (fun _ => rfl) ?_
        exact ⟨rfl, ⟨_, rfl, ⟨by omega, by omega⟩, trivial⟩⟩
  · skip
    refine go_ret (k := 3) (r := some (.inl (-1))) (w1 := (SH, dt)) (fun _ => rfl) ?_
    exact ⟨rfl, ⟨_, rfl, ⟨by omega, by omega⟩, trivial⟩⟩
theorem sp_X2_has_10 (X : am_X) (d : Nat) (dt : Nat → Nat → Int) (hI : InvC dt)  (row : Int) (h_row : (-2147483648) ≤ row ∧ row ≤ 2147483647)  : GO X (d) 37 0 [some (.inr (.inr (some 10))), some (.inl row)] [] (SH, dt) (fun r w2 => w2 = (SH, dt) ∧ ((r = some (.inl 1) ∧ (0 ≤ row ∧ row < dt 10 3)) ∨ (r = some (.inl 0) ∧ (¬ (0 ≤ row ∧ row < dt 10 3))))) := by
  refine go_if (k := 2) (p1 := 16) (p2 := 4) (L' := [some (.inr (.inr (some 10))), some (.inl row)]) (st' := []) (w' := (SH, dt)) (fun _ => rfl) (z_lt (a := row) ⟨by omega, by omega⟩) (fun c1 => ?_) (fun c1 => ?_)
  · skip
    refine go_ret (k := 2) (r := some (.inl 0)) (w1 := (SH, dt)) (fun _ => rfl) ?_
    exact ⟨rfl, (Or.inr ⟨rfl, by first | trivial | omega⟩)⟩
  · skip
    have r2 : 0 ≤ dt 10 3 ∧ dt 10 3 ≤ 40 := InvC_get hI 10 3 rfl rfl
    refine go_if (k := 4) (p1 := 16) (p2 := 12) (L' := [some (.inr (.inr (some 10))), some (.inl row)]) (st' := []) (w' := (SH, dt)) (fun _ => rfl) (c_ge (a := row) (b := dt 10 3) ⟨by omega, by omega⟩ ⟨by omega, by omega⟩) (fun c3 => ?_) (fun c3 => ?_)
    · skip
      refine go_ret (k := 2) (r := some (.inl 0)) (w1 := (SH, dt)) (fun _ => rfl) ?_
      exact ⟨rfl, (Or.inr ⟨rfl, by first | trivial | omega⟩)⟩
    · skip
      refine go_ret (k := 3) (r := some (.inl 1)) (w1 := (SH, dt)) (fun _ => rfl) ?_
      exact ⟨rfl, (Or.inl ⟨rfl, by first | trivial | omega⟩)⟩
theorem sp_X2_isFull_10 (X : am_X) (d : Nat) (dt : Nat → Nat → Int) (hI : InvC dt)    : GO X (d) 38 0 [some (.inr (.inr (some 10)))] [] (SH, dt) (fun r w2 => w2 = (SH, dt) ∧ ((r = some (.inl 1) ∧ (40 ≤ dt 10 3)) ∨ (r = some (.inl 0) ∧ (¬ (40 ≤ dt 10 3))))) := by
  have r1 : 0 ≤ dt 10 3 ∧ dt 10 3 ≤ 40 := InvC_get hI 10 3 rfl rfl
  refine go_to (k := 3) (pc' := 5) (L' := [some (.inr (.inr (some 10)))]) (st' := [.inr (.inr (some 10)), .inl (dt 10 3)]) (w' := (SH, dt)) (fun _ => rfl) ?_
  refine go_smp (L' := [some (.inr (.inr (some 10)))]) (st' := [.inl 40, .inl (dt 10 3)]) (w' := (SH, dt)) rfl rfl (s_gfc rfl rfl rfl (hI.2 10 0 rfl)) ?_
  refine go_if (k := 1) (p1 := 15) (p2 := 11) (L' := [some (.inr (.inr (some 10)))]) (st' := []) (w' := (SH, dt)) (fun _ => rfl) (c_lt (a := dt 10 3) (b := 40) ⟨by omega, by omega⟩ ⟨by omega, by omega⟩) (fun c2 => ?_) (fun c2 => ?_)
  · skip
    refine go_ret (k := 2) (r := some (.inl 0)) (w1 := (SH, dt)) (fun _ => rfl) ?_
    exact ⟨rfl, (Or.inr ⟨rfl, by first | trivial | omega⟩)⟩
  · skip
    refine go_ret (k := 3) (r := some (.inl 1)) (w1 := (SH, dt)) (fun _ => rfl) ?_
    exact ⟨rfl, (Or.inl ⟨rfl, by first | trivial | omega⟩)⟩
theorem sp_X2_at_10 (X : am_X) (d : Nat) (dt : Nat → Nat → Int) (hI : InvC dt)  (row : Int) (h_row : (-2147483648) ≤ row ∧ row ≤ 2147483647) (column : Int) (h_column : (-2147483648) ≤ column ∧ column ≤ 2147483647)  : GO X (d + 1) 39 0 [some (.inr (.inr (some 10))), some (.inl row), some (.inl column)] [] (SH, dt) (fun r w2 => w2 = (SH, dt) ∧ ((∃ v : Int, r = some (.inl v) ∧ ((-2147483648) ≤ v ∧ v ≤ 2147483647) ∧ True))) := by
  have r1 : 0 ≤ dt 10 3 ∧ dt 10 3 ≤ 40 := InvC_get hI 10 3 rfl rfl
  refine go_to (k := 2) (pc' := 2) (L' := [some (.inr (.inr (some 10))), some (.inl row), some (.inl column)]) (st' := [.inl row, .inr (.inr (some 10))]) (w' := (SH, dt)) (fun _ => rfl) ?_
  refine go_call (Q' := _) rfl rfl rfl rfl rfl (sp_X2_has_10 X (d + 0) dt hI  row ⟨by omega, by omega⟩ ) ?_
  rintro _ _ ⟨rfl, h2⟩
  refine ⟨rfl, ?_⟩
  rcases h2 with ⟨rfl, h2⟩ | ⟨rfl, h2⟩
  · skip
    refine go_if (k := 3) (p1 := 36) (p2 := 12) (L' := [some (.inr (.inr (some 10))), some (.inl row), some (.inl column)]) (st' := []) (w' := (SH, dt)) (fun _ => rfl) (z_lt (a := column) ⟨by omega, by omega⟩) (fun c3 => ?_) (fun c3 => ?_)
    · skip
      refine go_ret (k := 2) (r := some (.inl (-1))) (w1 := (SH, dt)) (fun _ => rfl) ?_
      exact ⟨rfl, ⟨_, rfl, ⟨by omega, by omega⟩, trivial⟩⟩
    · skip
      refine go_to (k := 2) (pc' := 14) (L' := [some (.inr (.inr (some 10))), some (.inl row), some (.inl column)]) (st' := [.inr (.inr (some 10)), .inl column]) (w' := (SH, dt)) (fun _ => rfl) ?_
      refine go_smp (L' := [some (.inr (.inr (some 10))), some (.inl row), some (.inl column)]) (st' := [.inl 4, .inl column]) (w' := (SH, dt)) rfl rfl (s_gfc rfl rfl rfl (hI.2 10 1 rfl)) ?_
      refine go_if (k := 1) (p1 := 36) (p2 := 20) (L' := [some (.inr (.inr (some 10))), some (.inl row), some (.inl column)]) (st' := []) (w' := (SH, dt)) (fun _ => rfl) (c_ge (a := column) (b := 4) ⟨by omega, by omega⟩ ⟨by omega, by omega⟩) (fun c4 => ?_) (fun c4 => ?_)
      · skip
        refine go_ret (k := 2) (r := some (.inl (-1))) (w1 := (SH, dt)) (fun _ => rfl) ?_
        exact ⟨rfl, ⟨_, rfl, ⟨by omega, by omega⟩, trivial⟩⟩
      · skip
        refine go_to (k := 4) (pc' := 26) (L' := [some (.inr (.inr (some 10))), some (.inl row), some (.inl column)]) (st' := [.inr (.inr (some 10)), .inl row, .inr (.inr (some 11))]) (w' := (SH, dt)) (fun _ => rfl) ?_
        refine go_smp (L' := [some (.inr (.inr (some 10))), some (.inl row), some (.inl column)]) (st' := [.inl 4, .inl row, .inr (.inr (some 11))]) (w' := (SH, dt)) rfl rfl (s_gfc rfl rfl rfl (hI.2 10 1 rfl)) ?_
        refine go_to (k := 3) (pc' := 32) (L' := [some (.inr (.inr (some 10))), some (.inl row), some (.inl column)]) (st' := [.inl ((row * 4) + column), .inr (.inr (some 11))]) (w' := (SH, dt)) (fun _ => rfl) ?_
        have r5 : (-2147483648) ≤ dt 11 (((row * 4) + column).toNat) ∧ dt 11 (((row * 4) + column).toNat) ≤ 2147483647 := InvC_get hI 11 (((row * 4) + column).toNat) rfl rfl
        refine go_smp (L' := [some (.inr (.inr (some 10))), some (.inl row), some (.inl column)]) (st' := [.inl (dt 11 (((row * 4) + column).toNat))]) (w' := (SH, dt)) rfl rfl (s_iald (n := 160) (f := dt 11) rfl ⟨by omega, by omega⟩) ?_
        refine go_ret (k := 2) (r := some (.inl (dt 11 (((row * 4) + column).toNat)))) (w1 := (SH, dt)) (fun _ => rfl) ?_
        exact ⟨rfl, ⟨_, rfl, ⟨by omega, by omega⟩, trivial⟩⟩
  · skip
    refine go_ret (k := 3) (r := some (.inl (-1))) (w1 := (SH, dt)) (fun _ => rfl) ?_
    exact ⟨rfl, ⟨_, rfl, ⟨by omega, by omega⟩, trivial⟩⟩
theorem sp_X2_has_12 (X : am_X) (d : Nat) (dt : Nat → Nat → Int) (hI : InvC dt)  (row : Int) (h_row : (-2147483648) ≤ row ∧ row ≤ 2147483647)  : GO X (d) 37 0 [some (.inr (.inr (some 12))), some (.inl row)] [] (SH, dt) (fun r w2 => w2 = (SH, dt) ∧ ((r = some (.inl 1) ∧ (0 ≤ row ∧ row < dt 12 3)) ∨ (r = some (.inl 0) ∧ (¬ (0 ≤ row ∧ row < dt 12 3))))) := by
  refine go_if (k := 2) (p1 := 16) (p2 := 4) (L' := [some (.inr (.inr (some 12))), some (.inl row)]) (st' := []) (w' := (SH, dt)) (fun _ => rfl) (z_lt (a := row) ⟨by omega, by omega⟩) (fun c1 => ?_) (fun c1 => ?_)
  · skip
    refine go_ret (k := 2) (r := some (.inl 0)) (w1 := (SH, dt)) (fun _ => rfl) ?_
    exact ⟨rfl, (Or.inr ⟨rfl, by first | trivial | omega⟩)⟩
  · skip
    have r2 : 0 ≤ dt 12 3 ∧ dt 12 3 ≤ 300 := InvC_get hI 12 3 rfl rfl
    refine go_if (k := 4) (p1 := 16) (p2 := 12) (L' := [some (.inr (.inr (some 12))), some (.inl row)]) (st' := []) (w' := (SH, dt)) (fun _ => rfl) (c_ge (a := row) (b := dt 12 3) ⟨by omega, by omega⟩ ⟨by omega, by omega⟩) (fun c3 => ?_) (fun c3 => ?_)
    · skip
      refine go_ret (k := 2) (r := some (.inl 0)) (w1 := (SH, dt)) (fun _ => rfl) ?_
      exact ⟨rfl, (Or.inr ⟨rfl, by first | trivial | omega⟩)⟩
    · skip
      refine go_ret (k := 3) (r := some (.inl 1)) (w1 := (SH, dt)) (fun _ => rfl) ?_
      exact ⟨rfl, (Or.inl ⟨rfl, by first | trivial | omega⟩)⟩
theorem sp_X2_isFull_12 (X : am_X) (d : Nat) (dt : Nat → Nat → Int) (hI : InvC dt)    : GO X (d) 38 0 [some (.inr (.inr (some 12)))] [] (SH, dt) (fun r w2 => w2 = (SH, dt) ∧ ((r = some (.inl 1) ∧ (300 ≤ dt 12 3)) ∨ (r = some (.inl 0) ∧ (¬ (300 ≤ dt 12 3))))) := by
  have r1 : 0 ≤ dt 12 3 ∧ dt 12 3 ≤ 300 := InvC_get hI 12 3 rfl rfl
  refine go_to (k := 3) (pc' := 5) (L' := [some (.inr (.inr (some 12)))]) (st' := [.inr (.inr (some 12)), .inl (dt 12 3)]) (w' := (SH, dt)) (fun _ => rfl) ?_
  refine go_smp (L' := [some (.inr (.inr (some 12)))]) (st' := [.inl 300, .inl (dt 12 3)]) (w' := (SH, dt)) rfl rfl (s_gfc rfl rfl rfl (hI.2 12 0 rfl)) ?_
  refine go_if (k := 1) (p1 := 15) (p2 := 11) (L' := [some (.inr (.inr (some 12)))]) (st' := []) (w' := (SH, dt)) (fun _ => rfl) (c_lt (a := dt 12 3) (b := 300) ⟨by omega, by omega⟩ ⟨by omega, by omega⟩) (fun c2 => ?_) (fun c2 => ?_)
  · skip
    refine go_ret (k := 2) (r := some (.inl 0)) (w1 := (SH, dt)) (fun _ => rfl) ?_
    exact ⟨rfl, (Or.inr ⟨rfl, by first | trivial | omega⟩)⟩
  · skip
    refine go_ret (k := 3) (r := some (.inl 1)) (w1 := (SH, dt)) (fun _ => rfl) ?_
    exact ⟨rfl, (Or.inl ⟨rfl, by first | trivial | omega⟩)⟩
theorem sp_X2_at_12 (X : am_X) (d : Nat) (dt : Nat → Nat → Int) (hI : InvC dt)  (row : Int) (h_row : (-2147483648) ≤ row ∧ row ≤ 2147483647) (column : Int) (h_column : (-2147483648) ≤ column ∧ column ≤ 2147483647)  : GO X (d + 1) 39 0 [some (.inr (.inr (some 12))), some (.inl row), some (.inl column)] [] (SH, dt) (fun r w2 => w2 = (SH, dt) ∧ ((∃ v : Int, r = some (.inl v) ∧ ((-2147483648) ≤ v ∧ v ≤ 2147483647) ∧ True))) := by
  have r1 : 0 ≤ dt 12 3 ∧ dt 12 3 ≤ 300 := InvC_get hI 12 3 rfl rfl
  refine go_to (k := 2) (pc' := 2) (L' := [some (.inr (.inr (some 12))), some (.inl row), some (.inl column)]) (st' := [.inl row, .inr (.inr (some 12))]) (w' := (SH, dt)) (fun _ => rfl) ?_
  refine go_call (Q' := _) rfl rfl rfl rfl rfl (sp_X2_has_12 X (d + 0) dt hI  row ⟨by omega, by omega⟩ ) ?_
  rintro _ _ ⟨rfl, h2⟩
  refine ⟨rfl, ?_⟩
  rcases h2 with ⟨rfl, h2⟩ | ⟨rfl, h2⟩
  · skip
    refine go_if (k := 3) (p1 := 36) (p2 := 12) (L' := [some (.inr (.inr (some 12))), some (.inl row), some (.inl column)]) (st' := []) (w' := (SH, dt)) (fun _ => rfl) (z_lt (a := column) ⟨by omega, by omega⟩) (fun c3 => ?_) (fun c3 => ?_)
    · skip
      refine go_ret (k := 2) (r := some (.inl (-1))) (w1 := (SH, dt)) (fun _ => rfl) ?_
      exact ⟨rfl, ⟨_, rfl, ⟨by omega, by omega⟩, trivial⟩⟩
    · skip
      refine go_to (k := 2) (pc' := 14) (L' := [some (.inr (.inr (some 12))), some (.inl row), some (.inl column)]) (st' := [.inr (.inr (some 12)), .inl column]) (w' := (SH, dt)) (fun _ => rfl) ?_
      refine go_smp (L' := [some (.inr (.inr (some 12))), some (.inl row), some (.inl column)]) (st' := [.inl 6, .inl column]) (w' := (SH, dt)) rfl rfl (s_gfc rfl rfl rfl (hI.2 12 1 rfl)) ?_
      refine go_if (k := 1) (p1 := 36) (p2 := 20) (L' := [some (.inr (.inr (some 12))), some (.inl row), some (.inl column)]) (st' := []) (w' := (SH, dt)) (fun _ => rfl) (c_ge (a := column) (b := 6) ⟨by omega, by omega⟩ ⟨by omega, by omega⟩) (fun c4 => ?_) (fun c4 => ?_)
      · skip
        refine go_ret (k := 2) (r := some (.inl (-1))) (w1 := (SH, dt)) (fun _ => rfl) ?_
        exact ⟨rfl, ⟨_, rfl, ⟨by omega, by omega⟩, trivial⟩⟩
      · skip
        refine go_to (k := 4) (pc' := 26) (L' := [some (.inr (.inr (some 12))), some (.inl row), some (.inl column)]) (st' := [.inr (.inr (some 12)), .inl row, .inr (.inr (some 13))]) (w' := (SH, dt)) (fun _ => rfl) ?_
        refine go_smp (L' := [some (.inr (.inr (some 12))), some (.inl row), some (.inl column)]) (st' := [.inl 6, .inl row, .inr (.inr (some 13))]) (w' := (SH, dt)) rfl rfl (s_gfc rfl rfl rfl (hI.2 12 1 rfl)) ?_
        refine go_to (k := 3) (pc' := 32) (L' := [some (.inr (.inr (some 12))), some (.inl row), some (.inl column)]) (st' := [.inl ((row * 6) + column), .inr (.inr (some 13))]) (w' := (SH, dt)) (fun _ => rfl) ?_
        have r5 : (-2147483648) ≤ dt 13 (((row * 6) + column).toNat) ∧ dt 13 (((row * 6) + column).toNat) ≤ 2147483647 := InvC_get hI 13 (((row * 6) + column).toNat) rfl rfl
        refine go_smp (L' := [some (.inr (.inr (some 12))), some (.inl row), some (.inl column)]) (st' := [.inl (dt 13 (((row * 6) + column).toNat))]) (w' := (SH, dt)) rfl rfl (s_iald (n := 1800) (f := dt 13) rfl ⟨by omega, by omega⟩) ?_
        refine go_ret (k := 2) (r := some (.inl (dt 13 (((row * 6) + column).toNat)))) (w1 := (SH, dt)) (fun _ => rfl) ?_
        exact ⟨rfl, ⟨_, rfl, ⟨by omega, by omega⟩, trivial⟩⟩
  · skip
    refine go_ret (k := 3) (r := some (.inl (-1))) (w1 := (SH, dt)) (fun _ => rfl) ?_
    exact ⟨rfl, ⟨_, rfl, ⟨by omega, by omega⟩, trivial⟩⟩
theorem sp_X2_has_14 (X : am_X) (d : Nat) (dt : Nat → Nat → Int) (hI : InvC dt)  (row : Int) (h_row : (-2147483648) ≤ row ∧ row ≤ 2147483647)  : GO X (d) 37 0 [some (.inr (.inr (some 14))), some (.inl row)] [] (SH, dt) (fun r w2 => w2 = (SH, dt) ∧ ((r = some (.inl 1) ∧ (0 ≤ row ∧ row < dt 14 3)) ∨ (r = some (.inl 0) ∧ (¬ (0 ≤ row ∧ row < dt 14 3))))) := by
  refine go_if (k := 2) (p1 := 16) (p2 := 4) (L' := [some (.inr (.inr (some 14))), some (.inl row)]) (st' := []) (w' := (SH, dt)) (fun _ => rfl) (z_lt (a := row) ⟨by omega, by omega⟩) (fun c1 => ?_) (fun c1 => ?_)
  · skip
    refine go_ret (k := 2) (r := some (.inl 0)) (w1 := (SH, dt)) (fun _ => rfl) ?_
    exact ⟨rfl, (Or.inr ⟨rfl, by first | trivial | omega⟩)⟩
  · skip
    have r2 : 0 ≤ dt 14 3 ∧ dt 14 3 ≤ 40 := InvC_get hI 14 3 rfl rfl
    refine go_if (k := 4) (p1 := 16) (p2 := 12) (L' := [some (.inr (.inr (some 14))), some (.inl row)]) (st' := []) (w' := (SH, dt)) (fun _ => rfl) (c_ge (a := row) (b := dt 14 3) ⟨by omega, by omega⟩ ⟨by omega, by omega⟩) (fun c3 => ?_) (fun c3 => ?_)
    · skip
      refine go_ret (k := 2) (r := some (.inl 0)) (w1 := (SH, dt)) (fun _ => rfl) ?_
      exact ⟨rfl, (Or.inr ⟨rfl, by first | trivial | omega⟩)⟩
    · skip
      refine go_ret (k := 3) (r := some (.inl 1)) (w1 := (SH, dt)) (fun _ => rfl) ?_
      exact ⟨rfl, (Or.inl ⟨rfl, by first | trivial | omega⟩)⟩
theorem sp_X2_isFull_14 (X : am_X) (d : Nat) (dt : Nat → Nat → Int) (hI : InvC dt)    : GO X (d) 38 0 [some (.inr (.inr (some 14)))] [] (SH, dt) (fun r w2 => w2 = (SH, dt) ∧ ((r = some (.inl 1) ∧ (40 ≤ dt 14 3)) ∨ (r = some (.inl 0) ∧ (¬ (40 ≤ dt 14 3))))) := by
  have r1 : 0 ≤ dt 14 3 ∧ dt 14 3 ≤ 40 := InvC_get hI 14 3 rfl rfl
  refine go_to (k := 3) (pc' := 5) (L' := [some (.inr (.inr (some 14)))]) (st' := [.inr (.inr (some 14)), .inl (dt 14 3)]) (w' := (SH, dt)) (fun _ => rfl) ?_
  refine go_smp (L' := [some (.inr (.inr (some 14)))]) (st' := [.inl 40, .inl (dt 14 3)]) (w' := (SH, dt)) rfl rfl (s_gfc rfl rfl rfl (hI.2 14 0 rfl)) ?_
  refine go_if (k := 1) (p1 := 15) (p2 := 11) (L' := [some (.inr (.inr (some 14)))]) (st' := []) (w' := (SH, dt)) (fun _ => rfl) (c_lt (a := dt 14 3) (b := 40) ⟨by omega, by omega⟩ ⟨by omega, by omega⟩) (fun c2 => ?_) (fun c2 => ?_)
  · skip
    refine go_ret (k := 2) (r := some (.inl 0)) (w1 := (SH, dt)) (fun _ => rfl) ?_
    exact ⟨rfl, (Or.inr ⟨rfl, by first | trivial | omega⟩)⟩
  · skip
    refine go_ret (k := 3) (r := some (.inl 1)) (w1 := (SH, dt)) (fun _ => rfl) ?_
    exact ⟨rfl, (Or.inl ⟨rfl, by first | trivial | omega⟩)⟩
theorem sp_X2_at_14 (X : am_X) (d : Nat) (dt : Nat → Nat → Int) (hI : InvC dt)  (row : Int) (h_row : (-2147483648) ≤ row ∧ row ≤ 2147483647) (column : Int) (h_column : (-2147483648) ≤ column ∧ column ≤ 2147483647)  : GO X (d + 1) 39 0 [some (.inr (.inr (some 14))), some (.inl row), some (.inl column)] [] (SH, dt) (fun r w2 => w2 = (SH, dt) ∧ ((∃ v : Int, r = some (.inl v) ∧ ((-2147483648) ≤ v ∧ v ≤ 2147483647) ∧ True))) := by
  have r1 : 0 ≤ dt 14 3 ∧ dt 14 3 ≤ 40 := InvC_get hI 14 3 rfl rfl
  refine go_to (k := 2) (pc' := 2) (L' := [some (.inr (.inr (some 14))), some (.inl row), some (.inl column)]) (st' := [.inl row, .inr (.inr (some 14))]) (w' := (SH, dt)) (fun _ => rfl) ?_
  refine go_call (Q' := _) rfl rfl rfl rfl rfl (sp_X2_has_14 X (d + 0) dt hI  row ⟨by omega, by omega⟩ ) ?_
  rintro _ _ ⟨rfl, h2⟩
  refine ⟨rfl, ?_⟩
  rcases h2 with ⟨rfl, h2⟩ | ⟨rfl, h2⟩
  · skip
    refine go_if (k := 3) (p1 := 36) (p2 := 12) (L' := [some (.inr (.inr (some 14))), some (.inl row), some (.inl column)]) (st' := []) (w' := (SH, dt)) (fun _ => rfl) (z_lt (a := column) ⟨by omega, by omega⟩) (fun c3 => ?_) (fun c3 => ?_)
    · skip
      refine go_ret (k := 2) (r := some (.inl (-1))) (w1 := (SH, dt)) (fun _ => rfl) ?_
      exact ⟨rfl, ⟨_, rfl, ⟨by omega, by omega⟩, trivial⟩⟩
    · skip
      refine go_to (k := 2) (pc' := 14) (L' := [some (.inr (.inr (some 14))), some (.inl row), some (.inl column)]) (st' := [.inr (.inr (some 14)), .inl column]) (w' := (SH, dt)) (fun _ => rfl) ?_
      refine go_smp (L' := [some (.inr (.inr (some 14))), some (.inl row), some (.inl column)]) (st' := [.inl 2, .inl column]) (w' := (SH, dt)) rfl rfl (s_gfc rfl rfl rfl (hI.2 14 1 rfl)) ?_
      refine go_if (k := 1) (p1 := 36) (p2 := 20) (L' := [some (.inr (.inr (some 14))), some (.inl row), some (.inl column)]) (st' := []) (w' := (SH, dt)) (fun _ => rfl) (c_ge (a := column) (b := 2) ⟨by omega, by omega⟩ ⟨by omega, by omega⟩) (fun c4 => ?_) (fun c4 => ?_)
      · skip
        refine go_ret (k := 2) (r := some (.inl (-1))) (w1 := (SH, dt)) (fun _ => rfl) ?_
        exact ⟨rfl, ⟨_, rfl, ⟨by omega, by omega⟩, trivial⟩⟩
      · skip
        refine go_to (k := 4) (pc' := 26) (L' := [some (.inr (.inr (some 14))), some (.inl row), some (.inl column)]) (st' := [.inr (.inr (some 14)), .inl row, .inr (.inr (some 15))]) (w' := (SH, dt)) (fun _ => rfl) ?_
        refine go_smp (L' := [some (.inr (.inr (some 14))), some (.inl row), some (.inl column)]) (st' := [.inl 2, .inl row, .inr (.inr (some 15))]) (w' := (SH, dt)) rfl rfl (s_gfc rfl rfl rfl (hI.2 14 1 rfl)) ?_
        refine go_to (k := 3) (pc' := 32) (L' := [some (.inr (.inr (some 14))), some (.inl row), some (.inl column)]) (st' := [.inl ((row * 2) + column), .inr (.inr (some 15))]) (w' := (SH, dt)) (fun _ => rfl) ?_
        have r5 : (-2147483648) ≤ dt 15 (((row * 2) + column).toNat) ∧ dt 15 (((row * 2) + column).toNat) ≤ 2147483647 := InvC_get hI 15 (((row * 2) + column).toNat) rfl rfl
        refine go_smp (L' := [some (.inr (.inr (some 14))), some (.inl row), some (.inl column)]) (st' := [.inl (dt 15 (((row * 2) + column).toNat))]) (w' := (SH, dt)) rfl rfl (s_iald (n := 80) (f := dt 15) rfl ⟨by omega, by omega⟩) ?_
        refine go_ret (k := 2) (r := some (.inl (dt 15 (((row * 2) + column).toNat)))) (w1 := (SH, dt)) (fun _ => rfl) ?_
        exact ⟨rfl, ⟨_, rfl, ⟨by omega, by omega⟩, trivial⟩⟩
  · skip
    refine go_ret (k := 3) (r := some (.inl (-1))) (w1 := (SH, dt)) (fun _ => rfl) ?_
    exact ⟨rfl, ⟨_, rfl, ⟨by omega, by omega⟩, trivial⟩⟩
theorem sp_X2_has_16 (X : am_X) (d : Nat) (dt : Nat → Nat → Int) (hI : InvC dt)  (row : Int) (h_row : (-2147483648) ≤ row ∧ row ≤ 2147483647)  : GO X (d) 37 0 [some (.inr (.inr (some 16))), some (.inl row)] [] (SH, dt) (fun r w2 => w2 = (SH, dt) ∧ ((r = some (.inl 1) ∧ (0 ≤ row ∧ row < dt 16 3)) ∨ (r = some (.inl 0) ∧ (¬ (0 ≤ row ∧ row < dt 16 3))))) := by
  refine go_if (k := 2) (p1 := 16) (p2 := 4) (L' := [some (.inr (.inr (some 16))), some (.inl row)]) (st' := []) (w' := (SH, dt)) (fun _ => rfl) (z_lt (a := row) ⟨by omega, by omega⟩) (fun c1 => ?_) (fun c1 => ?_)
  · skip
    refine go_ret (k := 2) (r := some (.inl 0)) (w1 := (SH, dt)) (fun _ => rfl) ?_
    exact ⟨rfl, (Or.inr ⟨rfl, by first | trivial | omega⟩)⟩
  · skip
    have r2 : 0 ≤ dt 16 3 ∧ dt 16 3 ≤ 20 := InvC_get hI 16 3 rfl rfl
    refine go_if (k := 4) (p1 := 16) (p2 := 12) (L' := [some (.inr (.inr (some 16))), some (.inl row)]) (st' := []) (w' := (SH, dt)) (fun _ => rfl) (c_ge (a := row) (b := dt 16 3) ⟨by omega, by omega⟩ ⟨by omega, by omega⟩) (fun c3 => ?_) (fun c3 => ?_)
    · skip
      refine go_ret (k := 2) (r := some (.inl 0)) (w1 := (SH, dt)) (fun _ => rfl) ?_
      exact ⟨rfl, (Or.inr ⟨rfl, by first | trivial | omega⟩)⟩
    · skip
      refine go_ret (k := 3) (r := some (.inl 1)) (w1 := (SH, dt)) (fun _ => rfl) ?_
      exact ⟨rfl, (Or.inl ⟨rfl, by first | trivial | omega⟩)⟩
theorem sp_X2_isFull_16 (X : am_X) (d : Nat) (dt : Nat → Nat → Int) (hI : InvC dt)    : GO X (d) 38 0 [some (.inr (.inr (some 16)))] [] (SH, dt) (fun r w2 => w2 = (SH, dt) ∧ ((r = some (.inl 1) ∧ (20 ≤ dt 16 3)) ∨ (r = some (.inl 0) ∧ (¬ (20 ≤ dt 16 3))))) := by
  have r1 : 0 ≤ dt 16 3 ∧ dt 16 3 ≤ 20 := InvC_get hI 16 3 rfl rfl
  refine go_to (k := 3) (pc' := 5) (L' := [some (.inr (.inr (some 16)))]) (st' := [.inr (.inr (some 16)), .inl (dt 16 3)]) (w' := (SH, dt)) (fun _ => rfl) ?_
  refine go_smp (L' := [some (.inr (.inr (some 16)))]) (st' := [.inl 20, .inl (dt 16 3)]) (w' := (SH, dt)) rfl rfl (s_gfc rfl rfl rfl (hI.2 16 0 rfl)) ?_
  refine go_if (k := 1) (p1 := 15) (p2 := 11) (L' := [some (.inr (.inr (some 16)))]) (st' := []) (w' := (SH, dt)) (fun _ => rfl) (c_lt (a := dt 16 3) (b := 20) ⟨by omega, by omega⟩ ⟨by omega, by omega⟩) (fun c2 => ?_) (fun c2 => ?_)
  · skip
    refine go_ret (k := 2) (r := some (.inl 0)) (w1 := (SH, dt)) (fun _ => rfl) ?_
    exact ⟨rfl, (Or.inr ⟨rfl, by first | trivial | omega⟩)⟩
  · skip
    refine go_ret (k := 3) (r := some (.inl 1)) (w1 := (SH, dt)) (fun _ => rfl) ?_
    exact ⟨rfl, (Or.inl ⟨rfl, by first | trivial | omega⟩)⟩
theorem sp_X2_at_16 (X : am_X) (d : Nat) (dt : Nat → Nat → Int) (hI : InvC dt)  (row : Int) (h_row : (-2147483648) ≤ row ∧ row ≤ 2147483647) (column : Int) (h_column : (-2147483648) ≤ column ∧ column ≤ 2147483647)  : GO X (d + 1) 39 0 [some (.inr (.inr (some 16))), some (.inl row), some (.inl column)] [] (SH, dt) (fun r w2 => w2 = (SH, dt) ∧ ((∃ v : Int, r = some (.inl v) ∧ ((-2147483648) ≤ v ∧ v ≤ 2147483647) ∧ True))) := by
  have r1 : 0 ≤ dt 16 3 ∧ dt 16 3 ≤ 20 := InvC_get hI 16 3 rfl rfl
  refine go_to (k := 2) (pc' := 2) (L' := [some (.inr (.inr (some 16))), some (.inl row), some (.inl column)]) (st' := [.inl row, .inr (.inr (some 16))]) (w' := (SH, dt)) (fun _ => rfl) ?_
  refine go_call (Q' := _) rfl rfl rfl rfl rfl (sp_X2_has_16 X (d + 0) dt hI  row ⟨by omega, by omega⟩ ) ?_
  rintro _ _ ⟨rfl, h2⟩
  refine ⟨rfl, ?_⟩
  rcases h2 with ⟨rfl, h2⟩ | ⟨rfl, h2⟩
  · skip
    refine go_if (k := 3) (p1 := 36) (p2 := 12) (L' := [some (.inr (.inr (some 16))), some (.inl row), some (.inl column)]) (st' := []) (w' := (SH, dt)) (fun _ => rfl) (z_lt (a := column) ⟨by omega, by omega⟩) (fun c3 => ?_) (fun c3 => ?_)
    · skip
      refine go_ret (k := 2) (r := some (.inl (-1))) (w1 := (SH, dt)) (fun _ => rfl) ?_
      exact ⟨rfl, ⟨_, rfl, ⟨by omega, by omega⟩, trivial⟩⟩
    · skip
      refine go_to (k := 2) (pc' := 14) (L' := [some (.inr (.inr (some 16))), some (.inl row), some (.inl column)]) (st' := [.inr (.inr (some 16)), .inl column]) (w' := (SH, dt)) (fun _ => rfl) ?_
      refine go_smp (L' := [some (.inr (.inr (some 16))), some (.inl row), some (.inl column)]) (st' := [.inl 2, .inl column]) (w' := (SH, dt)) rfl rfl (s_gfc rfl rfl rfl (hI.2 16 1 rfl)) ?_
      refine go_if (k := 1) (p1 := 36) (p2 := 20) (L' := [some (.inr (.inr (some 16))), some (.inl row), some (.inl column)]) (st' := []) (w' := (SH, dt)) (fun _ => rfl) (c_ge (a := column) (b := 2) ⟨by omega, by omega⟩ ⟨by omega, by omega⟩) (fun c4 => ?_) (fun c4 => ?_)
      · skip
        refine go_ret (k := 2) (r := some (.inl (-1))) (w1 := (SH, dt)) (fun _ => rfl) ?_
        exact ⟨rfl, ⟨_, rfl, ⟨by omega, by omega⟩, trivial⟩⟩
      · skip
        refine go_to (k := 4) (pc' := 26) (L' := [some (.inr (.inr (some 16))), some (.inl row), some (.inl column)]) (st' := [.inr (.inr (some 16)), .inl row, .inr (.inr (some 17))]) (w' := (SH, dt)) (fun _ => rfl) ?_
        refine go_smp (L' := [some (.inr (.inr (some 16))), some (.inl row), some (.inl column)]) (st' := [.inl 2, .inl row, .inr (.inr (some 17))]) (w' := (SH, dt)) rfl rfl (s_gfc rfl rfl rfl (hI.2 16 1 rfl)) ?_
        refine go_to (k := 3) (pc' := 32) (L' := [some (.inr (.inr (some 16))), some (.inl row), some (.inl column)]) (st' := [.inl ((row * 2) + column), .inr (.inr (some 17))]) (w' := (SH, dt)) (fun _ => rfl) ?_
        have r5 : (-2147483648) ≤ dt 17 (((row * 2) + column).toNat) ∧ dt 17 (((row * 2) + column).toNat) ≤ 2147483647 := InvC_get hI 17 (((row * 2) + column).toNat) rfl rfl
        refine go_smp (L' := [some (.inr (.inr (some 16))), some (.inl row), some (.inl column)]) (st' := [.inl (dt 17 (((row * 2) + column).toNat))]) (w' := (SH, dt)) rfl rfl (s_iald (n := 40) (f := dt 17) rfl ⟨by omega, by omega⟩) ?_
        refine go_ret (k := 2) (r := some (.inl (dt 17 (((row * 2) + column).toNat)))) (w1 := (SH, dt)) (fun _ => rfl) ?_
        exact ⟨rfl, ⟨_, rfl, ⟨by omega, by omega⟩, trivial⟩⟩
  · skip
    refine go_ret (k := 3) (r := some (.inl (-1))) (w1 := (SH, dt)) (fun _ => rfl) ?_
    exact ⟨rfl, ⟨_, rfl, ⟨by omega, by omega⟩, trivial⟩⟩
theorem sp_X2_has_24 (X : am_X) (d : Nat) (dt : Nat → Nat → Int) (hI : InvC dt)  (row : Int) (h_row : (-2147483648) ≤ row ∧ row ≤ 2147483647)  : GO X (d) 37 0 [some (.inr (.inr (some 24))), some (.inl row)] [] (SH, dt) (fun r w2 => w2 = (SH, dt) ∧ ((r = some (.inl 1) ∧ (0 ≤ row ∧ row < dt 24 3)) ∨ (r = some (.inl 0) ∧ (¬ (0 ≤ row ∧ row < dt 24 3))))) := by
  refine go_if (k := 2) (p1 := 16) (p2 := 4) (L' := [some (.inr (.inr (some 24))), some (.inl row)]) (st' := []) (w' := (SH, dt)) (fun _ => rfl) (z_lt (a := row) ⟨by omega, by omega⟩) (fun c1 => ?_) (fun c1 => ?_)
  · skip
    refine go_ret (k := 2) (r := some (.inl 0)) (w1 := (SH, dt)) (fun _ => rfl) ?_
    exact ⟨rfl, (Or.inr ⟨rfl, by first | trivial | omega⟩)⟩
  · skip
    have r2 : 0 ≤ dt 24 3 ∧ dt 24 3 ≤ 12 := InvC_get hI 24 3 rfl rfl
    refine go_if (k := 4) (p1 := 16) (p2 := 12) (L' := [some (.inr (.inr (some 24))), some (.inl row)]) (st' := []) (w' := (SH, dt)) (fun _ => rfl) (c_ge (a := row) (b := dt 24 3) ⟨by omega, by omega⟩ ⟨by omega, by omega⟩) (fun c3 => ?_) (fun c3 => ?_)
    · skip
      refine go_ret (k := 2) (r := some (.inl 0)) (w1 := (SH, dt)) (fun _ => rfl) ?_
      exact ⟨rfl, (Or.inr ⟨rfl, by first | trivial | omega⟩)⟩
    · skip
      refine go_ret (k := 3) (r := some (.inl 1)) (w1 := (SH, dt)) (fun _ => rfl) ?_
      exact ⟨rfl, (Or.inl ⟨rfl, by first | trivial | omega⟩)⟩
theorem sp_X2_isFull_24 (X : am_X) (d : Nat) (dt : Nat → Nat → Int) (hI : InvC dt)    : GO X (d) 38 0 [some (.inr (.inr (some 24)))] [] (SH, dt) (fun r w2 => w2 = (SH, dt) ∧ ((r = some (.inl 1) ∧ (12 ≤ dt 24 3)) ∨ (r = some (.inl 0) ∧ (¬ (12 ≤ dt 24 3))))) := by
  have r1 : 0 ≤ dt 24 3 ∧ dt 24 3 ≤ 12 := InvC_get hI 24 3 rfl rfl
  refine go_to (k := 3) (pc' := 5) (L' := [some (.inr (.inr (some 24)))]) (st' := [.inr (.inr (some 24)), .inl (dt 24 3)]) (w' := (SH, dt)) (fun _ => rfl) ?_
  refine go_smp (L' := [some (.inr (.inr (some 24)))]) (st' := [.inl 12, .inl (dt 24 3)]) (w' := (SH, dt)) rfl rfl (s_gfc rfl rfl rfl (hI.2 24 0 rfl)) ?_
  refine go_if (k := 1) (p1 := 15) (p2 := 11) (L' := [some (.inr (.inr (some 24)))]) (st' := []) (w' := (SH, dt)) (fun _ => rfl) (c_lt (a := dt 24 3) (b := 12) ⟨by omega, by omega⟩ ⟨by omega, by omega⟩) (fun c2 => ?_) (fun c2 => ?_)
  · skip
    refine go_ret (k := 2) (r := some (.inl 0)) (w1 := (SH, dt)) (fun _ => rfl) ?_
    exact ⟨rfl, (Or.inr ⟨rfl, by first | trivial | omega⟩)⟩
  · skip
    refine go_ret (k := 3) (r := some (.inl 1)) (w1 := (SH, dt)) (fun _ => rfl) ?_
    exact ⟨rfl, (Or.inl ⟨rfl, by first | trivial | omega⟩)⟩
theorem sp_X2_at_24 (X : am_X) (d : Nat) (dt : Nat → Nat → Int) (hI : InvC dt)  (row : Int) (h_row : (-2147483648) ≤ row ∧ row ≤ 2147483647) (column : Int) (h_column : (-2147483648) ≤ column ∧ column ≤ 2147483647)  : GO X (d + 1) 39 0 [some (.inr (.inr (some 24))), some (.inl row), some (.inl column)] [] (SH, dt) (fun r w2 => w2 = (SH, dt) ∧ ((∃ v : Int, r = some (.inl v) ∧ ((-2147483648) ≤ v ∧ v ≤ 2147483647) ∧ True))) := by
  have r1 : 0 ≤ dt 24 3 ∧ dt 24 3 ≤ 12 := InvC_get hI 24 3 rfl rfl
  refine go_to (k := 2) (pc' := 2) (L' := [some (.inr (.inr (some 24))), some (.inl row), some (.inl column)]) (st' := [.inl row, .inr (.inr (some 24))]) (w' := (SH, dt)) (fun _ => rfl) ?_
  refine go_call (Q' := _) rfl rfl rfl rfl rfl (sp_X2_has_24 X (d + 0) dt hI  row ⟨by omega, by omega⟩ ) ?_
  rintro _ _ ⟨rfl, h2⟩
  refine ⟨rfl, ?_⟩
  rcases h2 with ⟨rfl, h2⟩ | ⟨rfl, h2⟩
  · skip
    refine go_if (k := 3) (p1 := 36) (p2 := 12) (L' := [some (.inr (.inr (some 24))), some (.inl row), some (.inl column)]) (st' := []) (w' := (SH, dt)) (fun _ => rfl) (z_lt (a := column) ⟨by omega, by omega⟩) (fun c3 => ?_) (fun c3 => ?_)
    · skip
      refine go_ret (k := 2) (r := some (.inl (-1))) (w1 := (SH, dt)) (fun _ => rfl) ?_
      exact ⟨rfl, ⟨_, rfl, ⟨by omega, by omega⟩, trivial⟩⟩
    · skip
      refine go_to (k := 2) (pc' := 14) (L' := [some (.inr (.inr (some 24))), some (.inl row), some (.inl column)]) (st' := [.inr (.inr (some 24)), .inl column]) (w' := (SH, dt)) (fun _ => rfl) ?_
      refine go_smp (L' := [some (.inr (.inr (some 24))), some (.inl row), some (.inl column)]) (st' := [.inl 5, .inl column]) (w' := (SH, dt)) rfl rfl (s_gfc rfl rfl rfl (hI.2 24 1 rfl)) ?_
      refine go_if (k := 1) (p1 := 36) (p2 := 20) (L' := [some (.inr (.inr (some 24))), some (.inl row), some (.inl column)]) (st' := []) (w' := (SH, dt)) (fun _ => rfl) (c_ge (a := column) (b := 5) ⟨by omega, by omega⟩ ⟨by omega, by omega⟩) (fun c4 => ?_) (fun c4 => ?_)
      · skip
        refine go_ret (k := 2) (r := some (.inl (-1))) (w1 := (SH, dt)) (fun _ => rfl) ?_
        exact ⟨rfl, ⟨_, rfl, ⟨by omega, by omega⟩, trivial⟩⟩
      · skip
        refine go_to (k := 4) (pc' := 26) (L' := [some (.inr (.inr (some 24))), some (.inl row), some (.inl column)]) (st' := [.inr (.inr (some 24)), .inl row, .inr (.inr (some 25))]) (w' := (SH, dt)) (fun _ => rfl) ?_
        refine go_smp (L' := [some (.inr (.inr (some 24))), some (.inl row), some (.inl column)]) (st' := [.inl 5, .inl row, .inr (.inr (some 25))]) (w' := (SH, dt)) rfl rfl (s_gfc rfl rfl rfl (hI.2 24 1 rfl)) ?_
        refine go_to (k := 3) (pc' := 32) (L' := [some (.inr (.inr (some 24))), some (.inl row), some (.inl column)]) (st' := [.inl ((row * 5) + column), .inr (.inr (some 25))]) (w' := (SH, dt)) (fun _ => rfl) ?_
        have r5 : (-2147483648) ≤ dt 25 (((row * 5) + column).toNat) ∧ dt 25 (((row * 5) + column).toNat) ≤ 2147483647 := InvC_get hI 25 (((row * 5) + column).toNat) rfl rfl
        refine go_smp (L' := [some (.inr (.inr (some 24))), some (.inl row), some (.inl column)]) (st' := [.inl (dt 25 (((row * 5) + column).toNat))]) (w' := (SH, dt)) rfl rfl (s_iald (n := 60) (f := dt 25) rfl ⟨by omega, by omega⟩) ?_
        refine go_ret (k := 2) (r := some (.inl (dt 25 (((row * 5) + column).toNat)))) (w1 := (SH, dt)) (fun _ => rfl) ?_
        exact ⟨rfl, ⟨_, rfl, ⟨by omega, by omega⟩, trivial⟩⟩
  · skip
    refine go_ret (k := 3) (r := some (.inl (-1))) (w1 := (SH, dt)) (fun _ => rfl) ?_
    exact ⟨rfl, ⟨_, rfl, ⟨by omega, by omega⟩, trivial⟩⟩
theorem sp_X2_has_27 (X : am_X) (d : Nat) (dt : Nat → Nat → Int) (hI : InvC dt)  (row : Int) (h_row : (-2147483648) ≤ row ∧ row ≤ 2147483647)  : GO X (d) 37 0 [some (.inr (.inr (some 27))), some (.inl row)] [] (SH, dt) (fun r w2 => w2 = (SH, dt) ∧ ((r = some (.inl 1) ∧ (0 ≤ row ∧ row < dt 27 3)) ∨ (r = some (.inl 0) ∧ (¬ (0 ≤ row ∧ row < dt 27 3))))) := by
  refine go_if (k := 2) (p1 := 16) (p2 := 4) (L' := [some (.inr (.inr (some 27))), some (.inl row)]) (st' := []) (w' := (SH, dt)) (fun _ => rfl) (z_lt (a := row) ⟨by omega, by omega⟩) (fun c1 => ?_) (fun c1 => ?_)
  · skip
    refine go_ret (k := 2) (r := some (.inl 0)) (w1 := (SH, dt)) (fun _ => rfl) ?_
    exact ⟨rfl, (Or.inr ⟨rfl, by first | trivial | omega⟩)⟩
  · skip
    have r2 : 0 ≤ dt 27 3 ∧ dt 27 3 ≤ 40 := InvC_get hI 27 3 rfl rfl
    refine go_if (k := 4) (p1 := 16) (p2 := 12) (L' := [some (.inr (.inr (some 27))), some (.inl row)]) (st' := []) (w' := (SH, dt)) (fun _ => rfl) (c_ge (a := row) (b := dt 27 3) ⟨by omega, by omega⟩ ⟨by omega, by omega⟩) (fun c3 => ?_) (fun c3 => ?_)
    · skip
      refine go_ret (k := 2) (r := some (.inl 0)) (w1 := (SH, dt)) (fun _ => rfl) ?_
      exact ⟨rfl, (Or.inr ⟨rfl, by first | trivial | omega⟩)⟩
    · skip
      refine go_ret (k := 3) (r := some (.inl 1)) (w1 := (SH, dt)) (fun _ => rfl) ?_
      exact ⟨rfl, (Or.inl ⟨rfl, by first | trivial | omega⟩)⟩
theorem sp_X2_isFull_27 (X : am_X) (d : Nat) (dt : Nat → Nat → Int) (hI : InvC dt)    : GO X (d) 38 0 [some (.inr (.inr (some 27)))] [] (SH, dt) (fun r w2 => w2 = (SH, dt) ∧ ((r = some (.inl 1) ∧ (40 ≤ dt 27 3)) ∨ (r = some (.inl 0) ∧ (¬ (40 ≤ dt 27 3))))) := by
  have r1 : 0 ≤ dt 27 3 ∧ dt 27 3 ≤ 40 := InvC_get hI 27 3 rfl rfl
  refine go_to (k := 3) (pc' := 5) (L' := [some (.inr (.inr (some 27)))]) (st' := [.inr (.inr (some 27)), .inl (dt 27 3)]) (w' := (SH, dt)) (fun _ => rfl) ?_
  refine go_smp (L' := [some (.inr (.inr (some 27)))]) (st' := [.inl 40, .inl (dt 27 3)]) (w' := (SH, dt)) rfl rfl (s_gfc rfl rfl rfl (hI.2 27 0 rfl)) ?_
  refine go_if (k := 1) (p1 := 15) (p2 := 11) (L' := [some (.inr (.inr (some 27)))]) (st' := []) (w' := (SH, dt)) (fun _ => rfl) (c_lt (a := dt 27 3) (b := 40) ⟨by omega, by omega⟩ ⟨by omega, by omega⟩) (fun c2 => ?_) (fun c2 => ?_)
  · skip
    refine go_ret (k := 2) (r := some (.inl 0)) (w1 := (SH, dt)) (fun _ => rfl) ?_
    exact ⟨rfl, (Or.inr ⟨rfl, by first | trivial | omega⟩)⟩
  · skip
    refine go_ret (k := 3) (r := some (.inl 1)) (w1 := (SH, dt)) (fun _ => rfl) ?_
    exact ⟨rfl, (Or.inl ⟨rfl, by first | trivial | omega⟩)⟩
theorem sp_X2_at_27 (X : am_X) (d : Nat) (dt : Nat → Nat → Int) (hI : InvC dt)  (row : Int) (h_row : (-2147483648) ≤ row ∧ row ≤ 2147483647) (column : Int) (h_column : (-2147483648) ≤ column ∧ column ≤ 2147483647)  : GO X (d + 1) 39 0 [some (.inr (.inr (some 27))), some (.inl row), some (.inl column)] [] (SH, dt) (fun r w2 => w2 = (SH, dt) ∧ ((∃ v : Int, r = some (.inl v) ∧ ((-2147483648) ≤ v ∧ v ≤ 2147483647) ∧ True))) := by
  have r1 : 0 ≤ dt 27 3 ∧ dt 27 3 ≤ 40 := InvC_get hI 27 3 rfl rfl
  refine go_to (k := 2) (pc' := 2) (L' := [some (.inr (.inr (some 27))), some (.inl row), some (.inl column)]) (st' := [.inl row, .inr (.inr (some 27))]) (w' := (SH, dt)) (fun _ => rfl) ?_
  refine go_call (Q' := _) rfl rfl rfl rfl rfl (sp_X2_has_27 X (d + 0) dt hI  row ⟨by omega, by omega⟩ ) ?_
  rintro _ _ ⟨rfl, h2⟩
  refine ⟨rfl, ?_⟩
  rcases h2 with ⟨rfl, h2⟩ | ⟨rfl, h2⟩
  · skip
    refine go_if (k := 3) (p1 := 36) (p2 := 12) (L' := [some (.inr (.inr (some 27))), some (.inl row), some (.inl column)]) (st' := []) (w' := (SH, dt)) (fun _ => rfl) (z_lt (a := column) ⟨by omega, by omega⟩) (fun c3 => ?_) (fun c3 => ?_)
    · skip
      refine go_ret (k := 2) (r := some (.inl (-1))) (w1 := (SH, dt)) (fun _ => rfl) ?_
      exact ⟨rfl, ⟨_, rfl, ⟨by omega, by omega⟩, trivial⟩⟩
    · skip
      refine go_to (k := 2) (pc' := 14) (L' := [some (.inr (.inr (some 27))), some (.inl row), some (.inl column)]) (st' := [.inr (.inr (some 27)), .inl column]) (w' := (SH, dt)) (fun _ => rfl) ?_
      refine go_smp (L' := [some (.inr (.inr (some 27))), some (.inl row), some (.inl column)]) (st' := [.inl 4, .inl column]) (w' := (SH, dt)) rfl rfl (s_gfc rfl rfl rfl (hI.2 27 1 rfl)) ?_
      refine go_if (k := 1) (p1 := 36) (p2 := 20) (L' := [some (.inr (.inr (some 27))), some (.inl row), some (.inl column)]) (st' := []) (w' := (SH, dt)) (fun _ => rfl) (c_ge (a := column) (b := 4) ⟨by omega, by omega⟩ ⟨by omega, by omega⟩) (fun c4 => ?_) (fun c4 => ?_)
      · skip
        refine go_ret (k := 2) (r := some (.inl (-1))) (w1 := (SH, dt)) (fun _ => rfl) ?_
        exact ⟨rfl, ⟨_, rfl, ⟨by omega, by omega⟩, trivial⟩⟩
      · skip
        refine go_to (k := 4) (pc' := 26) (L' := [some (.inr (.inr (some 27))), some (.inl row), some (.inl column)]) (st' := [.inr (.inr (some 27)), .inl row, .inr (.inr (some 28))]) (w' := (SH, dt)) (fun _ => rfl) ?_
        refine go_smp (L' := [some (.inr (.inr (some 27))), some (.inl row), some (.inl column)]) (st' := [.inl 4, .inl row, .inr (.inr (some 28))]) (w' := (SH, dt)) rfl rfl (s_gfc rfl rfl rfl (hI.2 27 1 rfl)) ?_
        refine go_to (k := 3) (pc' := 32) (L' := [some (.inr (.inr (some 27))), some (.inl row), some (.inl column)]) (st' := [.inl ((row * 4) + column), .inr (.inr (some 28))]) (w' := (SH, dt)) (fun _ => rfl) ?_
        have r5 : (-2147483648) ≤ dt 28 (((row * 4) + column).toNat) ∧ dt 28 (((row * 4) + column).toNat) ≤ 2147483647 := InvC_get hI 28 (((row * 4) + column).toNat) rfl rfl
        refine go_smp (L' := [some (.inr (.inr (some 27))), some (.inl row), some (.inl column)]) (st' := [.inl (dt 28 (((row * 4) + column).toNat))]) (w' := (SH, dt)) rfl rfl (s_iald (n := 160) (f := dt 28) rfl ⟨by omega, by omega⟩) ?_
        refine go_ret (k := 2) (r := some (.inl (dt 28 (((row * 4) + column).toNat)))) (w1 := (SH, dt)) (fun _ => rfl) ?_
        exact ⟨rfl, ⟨_, rfl, ⟨by omega, by omega⟩, trivial⟩⟩
  · skip
    refine go_ret (k := 3) (r := some (.inl (-1))) (w1 := (SH, dt)) (fun _ => rfl) ?_
    exact ⟨rfl, ⟨_, rfl, ⟨by omega, by omega⟩, trivial⟩⟩
theorem sp_X2_has_29 (X : am_X) (d : Nat) (dt : Nat → Nat → Int) (hI : InvC dt)  (row : Int) (h_row : (-2147483648) ≤ row ∧ row ≤ 2147483647)  : GO X (d) 37 0 [some (.inr (.inr (some 29))), some (.inl row)] [] (SH, dt) (fun r w2 => w2 = (SH, dt) ∧ ((r = some (.inl 1) ∧ (0 ≤ row ∧ row < dt 29 3)) ∨ (r = some (.inl 0) ∧ (¬ (0 ≤ row ∧ row < dt 29 3))))) := by
  refine go_if (k := 2) (p1 := 16) (p2 := 4) (L' := [some (.inr (.inr (some 29))), some (.inl row)]) (st' := []) (w' := (SH, dt)) (fun _ => rfl) (z_lt (a := row) ⟨by omega, by omega⟩) (fun c1 => ?_) (fun c1 => ?_)
  · skip
    refine go_ret (k := 2) (r := some (.inl 0)) (w1 := (SH, dt)) (fun _ => rfl) ?_
    exact ⟨rfl, (Or.inr ⟨rfl, by first | trivial | omega⟩)⟩
  · skip
    have r2 : 0 ≤ dt 29 3 ∧ dt 29 3 ≤ 300 := InvC_get hI 29 3 rfl rfl
    refine go_if (k := 4) (p1 := 16) (p2 := 12) (L' := [some (.inr (.inr (some 29))), some (.inl row)]) (st' := []) (w' := (SH, dt)) (fun _ => rfl) (c_ge (a := row) (b := dt 29 3) ⟨by omega, by omega⟩ ⟨by omega, by omega⟩) (fun c3 => ?_) (fun c3 => ?_)
    · skip
      refine go_ret (k := 2) (r := some (.inl 0)) (w1 := (SH, dt)) (fun _ => rfl) ?_
      exact ⟨rfl, (Or.inr ⟨rfl, by first | trivial | omega⟩)⟩
    · skip
      refine go_ret (k := 3) (r := some (.inl 1)) (w1 := (SH, dt)) (fun _ => rfl) ?_
      exact ⟨rfl, (Or.inl ⟨rfl, by first | trivial | omega⟩)⟩
theorem sp_X2_isFull_29 (X : am_X) (d : Nat) (dt : Nat → Nat → Int) (hI : InvC dt)    : GO X (d) 38 0 [some (.inr (.inr (some 29)))] [] (SH, dt) (fun r w2 => w2 = (SH, dt) ∧ ((r = some (.inl 1) ∧ (300 ≤ dt 29 3)) ∨ (r = some (.inl 0) ∧ (¬ (300 ≤ dt 29 3))))) := by
  have r1 : 0 ≤ dt 29 3 ∧ dt 29 3 ≤ 300 := InvC_get hI 29 3 rfl rfl
  refine go_to (k := 3) (pc' := 5) (L' := [some (.inr (.inr (some 29)))]) (st' := [.inr (.inr (some 29)), .inl (dt 29 3)]) (w' := (SH, dt)) (fun _ => rfl) ?_
  refine go_smp (L' := [some (.inr (.inr (some 29)))]) (st' := [.inl 300, .inl (dt 29 3)]) (w' := (SH, dt)) rfl rfl (s_gfc rfl rfl rfl (hI.2 29 0 rfl)) ?_
  refine go_if (k := 1) (p1 := 15) (p2 := 11) (L' := [some (.inr (.inr (some 29)))]) (st' := []) (w' := (SH, dt)) (fun _ => rfl) (c_lt (a := dt 29 3) (b := 300) ⟨by omega, by omega⟩ ⟨by omega, by omega⟩) (fun c2 => ?_) (fun c2 => ?_)
  · skip
    refine go_ret (k := 2) (r := some (.inl 0)) (w1 := (SH, dt)) (fun _ => rfl) ?_
    exact ⟨rfl, (Or.inr ⟨rfl, by first | trivial | omega⟩)⟩
  · skip
    refine go_ret (k := 3) (r := some (.inl 1)) (w1 := (SH, dt)) (fun _ => rfl) ?_
    exact ⟨rfl, (Or.inl ⟨rfl, by first | trivial | omega⟩)⟩
theorem sp_X2_at_29 (X : am_X) (d : Nat) (dt : Nat → Nat → Int) (hI : InvC dt)  (row : Int) (h_row : (-2147483648) ≤ row ∧ row ≤ 2147483647) (column : Int) (h_column : (-2147483648) ≤ column ∧ column ≤ 2147483647)  : GO X (d + 1) 39 0 [some (.inr (.inr (some 29))), some (.inl row), some (.inl column)] [] (SH, dt) (fun r w2 => w2 = (SH, dt) ∧ ((∃ v : Int, r = some (.inl v) ∧ ((-2147483648) ≤ v ∧ v ≤ 2147483647) ∧ True))) := by
  have r1 : 0 ≤ dt 29 3 ∧ dt 29 3 ≤ 300 := InvC_get hI 29 3 rfl rfl
  refine go_to (k := 2) (pc' := 2) (L' := [some (.inr (.inr (some 29))), some (.inl row), some (.inl column)]) (st' := [.inl row, .inr (.inr (some 29))]) (w' := (SH, dt)) (fun _ => rfl) ?_
  refine go_call (Q' := _) rfl rfl rfl rfl rfl (sp_X2_has_29 X (d + 0) dt hI  row ⟨by omega, by omega⟩ ) ?_
  rintro _ _ ⟨rfl, h2⟩
  refine ⟨rfl, ?_⟩
  rcases h2 with ⟨rfl, h2⟩ | ⟨rfl, h2⟩
  · skip
    refine go_if (k := 3) (p1 := 36) (p2 := 12) (L' := [some (.inr (.inr (some 29))), some (.inl row), some (.inl column)]) (st' := []) (w' := (SH, dt)) (fun _ => rfl) (z_lt (a := column) ⟨by omega, by omega⟩) (fun c3 => ?_) (fun c3 => ?_)
    · skip
      refine go_ret (k := 2) (r := some (.inl (-1))) (w1 := (SH, dt)) (fun _ => rfl) ?_
      exact ⟨rfl, ⟨_, rfl, ⟨by omega, by omega⟩, trivial⟩⟩
    · skip
      refine go_to (k := 2) (pc' := 14) (L' := [some (.inr (.inr (some 29))), some (.inl row), some (.inl column)]) (st' := [.inr (.inr (some 29)), .inl column]) (w' := (SH, dt)) (fun _ => rfl) ?_
      refine go_smp (L' := [some (.inr (.inr (some 29))), some (.inl row), some (.inl column)]) (st' := [.inl 6, .inl column]) (w' := (SH, dt)) rfl rfl (s_gfc rfl rfl rfl (hI.2 29 1 rfl)) ?_
      refine go_if (k := 1) (p1 := 36) (p2 := 20) (L' := [some (.inr (.inr (some 29))), some (.inl row), some (.inl column)]) (st' := []) (w' := (SH, dt)) (fun _ => rfl) (c_ge (a := column) (b := 6) ⟨by omega, by omega⟩ ⟨by omega, by omega⟩) (fun c4 => ?_) (fun c4 => ?_)
      · skip
        refine go_ret (k := 2) (r := some (.inl (-1))) (w1 := (SH, dt)) (fun _ => rfl) ?_
        exact ⟨rfl, ⟨_, rfl, ⟨by omega, by omega⟩, trivial⟩⟩
      · skip
        refine go_to (k := 4) (pc' := 26) (L' := [some (.inr (.inr (some 29))), some (.inl row), some (.inl column)]) (st' := [.inr (.inr (some 29)), .inl row, .inr (.inr (some 30))]) (w' := (SH, dt)) (fun _ => rfl) ?_
        refine go_smp (L' := [some (.inr (.inr (some 29))), some (.inl row), some (.inl column)]) (st' := [.inl 6, .inl row, .inr (.inr (some 30))]) (w' := (SH, dt)) rfl rfl (s_gfc rfl rfl rfl (hI.2 29 1 rfl)) ?_
        refine go_to (k := 3) (pc' := 32) (L' := [some (.inr (.inr (some 29))), some (.inl row), some (.inl column)]) (st' := [.inl ((row * 6) + column), .inr (.inr (some 30))]) (w' := (SH, dt)) (fun _ => rfl) ?_
        have r5 : (-2147483648) ≤ dt 30 (((row * 6) + column).toNat) ∧ dt 30 (((row * 6) + column).toNat) ≤ 2147483647 := InvC_get hI 30 (((row * 6) + column).toNat) rfl rfl
        refine go_smp (L' := [some (.inr (.inr (some 29))), some (.inl row), some (.inl column)]) (st' := [.inl (dt 30 (((row * 6) + column).toNat))]) (w' := (SH, dt)) rfl rfl (s_iald (n := 1800) (f := dt 30) rfl ⟨by omega, by omega⟩) ?_
        refine go_ret (k := 2) (r := some (.inl (dt 30 (((row * 6) + column).toNat)))) (w1 := (SH, dt)) (fun _ => rfl) ?_
        exact ⟨rfl, ⟨_, rfl, ⟨by omega, by omega⟩, trivial⟩⟩
  · skip
    refine go_ret (k := 3) (r := some (.inl (-1))) (w1 := (SH, dt)) (fun _ => rfl) ?_
    exact ⟨rfl, ⟨_, rfl, ⟨by omega, by omega⟩, trivial⟩⟩
theorem sp_X2_has_31 (X : am_X) (d : Nat) (dt : Nat → Nat → Int) (hI : InvC dt)  (row : Int) (h_row : (-2147483648) ≤ row ∧ row ≤ 2147483647)  : GO X (d) 37 0 [some (.inr (.inr (some 31))), some (.inl row)] [] (SH, dt) (fun r w2 => w2 = (SH, dt) ∧ ((r = some (.inl 1) ∧ (0 ≤ row ∧ row < dt 31 3)) ∨ (r = some (.inl 0) ∧ (¬ (0 ≤ row ∧ row < dt 31 3))))) := by
  refine go_if (k := 2) (p1 := 16) (p2 := 4) (L' := [some (.inr (.inr (some 31))), some (.inl row)]) (st' := []) (w' := (SH, dt)) (fun _ => rfl) (z_lt (a := row) ⟨by omega, by omega⟩) (fun c1 => ?_) (fun c1 => ?_)
  · skip
    refine go_ret (k := 2) (r := some (.inl 0)) (w1 := (SH, dt)) (fun _ => rfl) ?_
    exact ⟨rfl, (Or.inr ⟨rfl, by first | trivial | omega⟩)⟩
  · skip
    have r2 : 0 ≤ dt 31 3 ∧ dt 31 3 ≤ 40 := InvC_get hI 31 3 rfl rfl
    refine go_if (k := 4) (p1 := 16) (p2 := 12) (L' := [some (.inr (.inr (some 31))), some (.inl row)]) (st' := []) (w' := (SH, dt)) (fun _ => rfl) (c_ge (a := row) (b := dt 31 3) ⟨by omega, by omega⟩ ⟨by omega, by omega⟩) (fun c3 => ?_) (fun c3 => ?_)
    · skip
      refine go_ret (k := 2) (r := some (.inl 0)) (w1 := (SH, dt)) (fun _ => rfl) ?_
      exact ⟨rfl, (Or.inr ⟨rfl, by first | trivial | omega⟩)⟩
    · skip
      refine go_ret (k := 3) (r := some (.inl 1)) (w1 := (SH, dt)) (fun _ => rfl) ?_
      exact ⟨rfl, (Or.inl ⟨rfl, by first | trivial | omega⟩)⟩
theorem sp_X2_isFull_31 (X : am_X) (d : Nat) (dt : Nat → Nat → Int) (hI : InvC dt)    : GO X (d) 38 0 [some (.inr (.inr (some 31)))] [] (SH, dt) (fun r w2 => w2 = (SH, dt) ∧ ((r = some (.inl 1) ∧ (40 ≤ dt 31 3)) ∨ (r = some (.inl 0) ∧ (¬ (40 ≤ dt 31 3))))) := by
  have r1 : 0 ≤ dt 31 3 ∧ dt 31 3 ≤ 40 := InvC_get hI 31 3 rfl rfl
  refine go_to (k := 3) (pc' := 5) (L' := [some (.inr (.inr (some 31)))]) (st' := [.inr (.inr (some 31)), .inl (dt 31 3)]) (w' := (SH, dt)) (fun _ => rfl) ?_
  refine go_smp (L' := [some (.inr (.inr (some 31)))]) (st' := [.inl 40, .inl (dt 31 3)]) (w' := (SH, dt)) rfl rfl (s_gfc rfl rfl rfl (hI.2 31 0 rfl)) ?_
  refine go_if (k := 1) (p1 := 15) (p2 := 11) (L' := [some (.inr (.inr (some 31)))]) (st' := []) (w' := (SH, dt)) (fun _ => rfl) (c_lt (a := dt 31 3) (b := 40) ⟨by omega, by omega⟩ ⟨by omega, by omega⟩) (fun c2 => ?_) (fun c2 => ?_)
  · skip
    refine go_ret (k := 2) (r := some (.inl 0)) (w1 := (SH, dt)) (fun _ => rfl) ?_
    exact ⟨rfl, (Or.inr ⟨rfl, by first | trivial | omega⟩)⟩
  · skip
    refine go_ret (k := 3) (r := some (.inl 1)) (w1 := (SH, dt)) (fun _ => rfl) ?_
    exact ⟨rfl, (Or.inl ⟨rfl, by first | trivial | omega⟩)⟩
theorem sp_X2_at_31 (X : am_X) (d : Nat) (dt : Nat → Nat → Int) (hI : InvC dt)  (row : Int) (h_row : (-2147483648) ≤ row ∧ row ≤ 2147483647) (column : Int) (h_column : (-2147483648) ≤ column ∧ column ≤ 2147483647)  : GO X (d + 1) 39 0 [some (.inr (.inr (some 31))), some (.inl row), some (.inl column)] [] (SH, dt) (fun r w2 => w2 = (SH, dt) ∧ ((∃ v : Int, r = some (.inl v) ∧ ((-2147483648) ≤ v ∧ v ≤ 2147483647) ∧ True))) := by
  have r1 : 0 ≤ dt 31 3 ∧ dt 31 3 ≤ 40 := InvC_get hI 31 3 rfl rfl
  refine go_to (k := 2) (pc' := 2) (L' := [some (.inr (.inr (some 31))), some (.inl row), some (.inl column)]) (st' := [.inl row, .inr (.inr (some 31))]) (w' := (SH, dt)) (fun _ => rfl) ?_
  refine go_call (Q' := _) rfl rfl rfl rfl rfl (sp_X2_has_31 X (d + 0) dt hI  row ⟨by omega, by omega⟩ ) ?_
  rintro _ _ ⟨rfl, h2⟩
  refine ⟨rfl, ?_⟩
  rcases h2 with ⟨rfl, h2⟩ | ⟨rfl, h2⟩
  · skip
    refine go_if (k := 3) (p1 := 36) (p2 := 12) (L' := [some (.inr (.inr (some 31))), some (.inl row), some (.inl column)]) (st' := []) (w' := (SH, dt)) (fun _ => rfl) (z_lt (a := column) ⟨by omega, by omega⟩) (fun c3 => ?_) (fun c3 => ?_)
    · skip
      refine go_ret (k := 2) (r := some (.inl (-1))) (w1 := (SH, dt)) (fun _ => rfl) ?_
      exact ⟨rfl, ⟨_, rfl, ⟨by omega, by omega⟩, trivial⟩⟩
    · skip
      refine go_to (k := 2) (pc' := 14) (L' := [some (.inr (.inr (some 31))), some (.inl row), some (.inl column)]) (st' := [.inr (.inr (some 31)), .inl column]) (w' := (SH, dt)) (fun _ => rfl) ?_
      refine go_smp (L' := [some (.inr (.inr (some 31))), some (.inl row), some (.inl column)]) (st' := [.inl 2, .inl column]) (w' := (SH, dt)) rfl rfl (s_gfc rfl rfl rfl (hI.2 31 1 rfl)) ?_
      refine go_if (k := 1) (p1 := 36) (p2 := 20) (L' := [some (.inr (.inr (some 31))), some (.inl row), some (.inl column)]) (st' := []) (w' := (SH, dt)) (fun _ => rfl) (c_ge (a := column) (b := 2) ⟨by omega, by omega⟩ ⟨by omega, by omega⟩) (fun c4 => ?_) (fun c4 => ?_)
      · skip
        refine go_ret (k := 2) (r := some (.inl (-1))) (w1 := (SH, dt)) (fun _ => rfl) ?_
        exact ⟨rfl, ⟨_, rfl, ⟨by omega, by omega⟩, trivial⟩⟩
      · skip
        refine go_to (k := 4) (pc' := 26) (L' := [some (.inr (.inr (some 31))), some (.inl row), some (.inl column)]) (st' := [.inr (.inr (some 31)), .inl row, .inr (.inr (some 32))]) (w' := (SH, dt)) (fun _ => rfl) ?_
        refine go_smp (L' := [some (.inr (.inr (some 31))), some (.inl row), some (.inl column)]) (st' := [.inl 2, .inl row, .inr (.inr (some 32))]) (w' := (SH, dt)) rfl rfl (s_gfc rfl rfl rfl (hI.2 31 1 rfl)) ?_
        refine go_to (k := 3) (pc' := 32) (L' := [some (.inr (.inr (some 31))), some (.inl row), some (.inl column)]) (st' := [.inl ((row * 2) + column), .inr (.inr (some 32))]) (w' := (SH, dt)) (fun _ => rfl) ?_
        have r5 : (-2147483648) ≤ dt 32 (((row * 2) + column).toNat) ∧ dt 32 (((row * 2) + column).toNat) ≤ 2147483647 := InvC_get hI 32 (((row * 2) + column).toNat) rfl rfl
        refine go_smp (L' := [some (.inr (.inr (some 31))), some (.inl row), some (.inl column)]) (st' := [.inl (dt 32 (((row * 2) + column).toNat))]) (w' := (SH, dt)) rfl rfl (s_iald (n := 80) (f := dt 32) rfl ⟨by omega, by omega⟩) ?_
        refine go_ret (k := 2) (r := some (.inl (dt 32 (((row * 2) + column).toNat)))) (w1 := (SH, dt)) (fun _ => rfl) ?_
        exact ⟨rfl, ⟨_, rfl, ⟨by omega, by omega⟩, trivial⟩⟩
  · skip
    refine go_ret (k := 3) (r := some (.inl (-1))) (w1 := (SH, dt)) (fun _ => rfl) ?_
    exact ⟨rfl, ⟨_, rfl, ⟨by omega, by omega⟩, trivial⟩⟩
theorem sp_X2_has_33 (X : am_X) (d : Nat) (dt : Nat → Nat → Int) (hI : InvC dt)  (row : Int) (h_row : (-2147483648) ≤ row ∧ row ≤ 2147483647)  : GO X (d) 37 0 [some (.inr (.inr (some 33))), some (.inl row)] [] (SH, dt) (fun r w2 => w2 = (SH, dt) ∧ ((r = some (.inl 1) ∧ (0 ≤ row ∧ row < dt 33 3)) ∨ (r = some (.inl 0) ∧ (¬ (0 ≤ row ∧ row < dt 33 3))))) := by
  refine go_if (k := 2) (p1 := 16) (p2 := 4) (L' := [some (.inr (.inr (some 33))), some (.inl row)]) (st' := []) (w' := (SH, dt)) (fun _ => rfl) (z_lt (a := row) ⟨by omega, by omega⟩) (fun c1 => ?_) (fun c1 => ?_)
  · skip
    refine go_ret (k := 2) (r := some (.inl 0)) (w1 := (SH, dt)) (fun _ => rfl) ?_
    exact ⟨rfl, (Or.inr ⟨rfl, by first | trivial | omega⟩)⟩
  · skip
    have r2 : 0 ≤ dt 33 3 ∧ dt 33 3 ≤ 20 := InvC_get hI 33 3 rfl rfl
    refine go_if (k := 4) (p1 := 16) (p2 := 12) (L' := [some (.inr (.inr (some 33))), some (.inl row)]) (st' := []) (w' := (SH, dt)) (fun _ => rfl) (c_ge (a := row) (b := dt 33 3) ⟨by omega, by omega⟩ ⟨by omega, by omega⟩) (fun c3 => ?_) (fun c3 => ?_)
    · skip
      refine go_ret (k := 2) (r := some (.inl 0)) (w1 := (SH, dt)) (fun _ => rfl) ?_
      exact ⟨rfl, (Or.inr ⟨rfl, by first | trivial | omega⟩)⟩
    · skip
      refine go_ret (k := 3) (r := some (.inl 1)) (w1 := (SH, dt)) (fun _ => rfl) ?_
      exact ⟨rfl, (Or.inl ⟨rfl, by first | trivial | omega⟩)⟩
theorem sp_X2_isFull_33 (X : am_X) (d : Nat) (dt : Nat → Nat → Int) (hI : InvC dt)    : GO X (d) 38 0 [some (.inr (.inr (some 33)))] [] (SH, dt) (fun r w2 => w2 = (SH, dt) ∧ ((r = some (.inl 1) ∧ (20 ≤ dt 33 3)) ∨ (r = some (.inl 0) ∧ (¬ (20 ≤ dt 33 3))))) := by
  have r1 : 0 ≤ dt 33 3 ∧ dt 33 3 ≤ 20 := InvC_get hI 33 3 rfl rfl
  refine go_to (k := 3) (pc' := 5) (L' := [some (.inr (.inr (some 33)))]) (st' := [.inr (.inr (some 33)), .inl (dt 33 3)]) (w' := (SH, dt)) (fun _ => rfl) ?_
  refine go_smp (L' := [some (.inr (.inr (some 33)))]) (st' := [.inl 20, .inl (dt 33 3)]) (w' := (SH, dt)) rfl rfl (s_gfc rfl rfl rfl (hI.2 33 0 rfl)) ?_
  refine go_if (k := 1) (p1 := 15) (p2 := 11) (L' := [some (.inr (.inr (some 33)))]) (st' := []) (w' := (SH, dt)) (fun _ => rfl) (c_lt (a := dt 33 3) (b := 20) ⟨by omega, by omega⟩ ⟨by omega, by omega⟩) (fun c2 => ?_) (fun c2 => ?_)
  · skip
    refine go_ret (k := 2) (r := some (.inl 0)) (w1 := (SH, dt)) (fun _ => rfl) ?_
    exact ⟨rfl, (Or.inr ⟨rfl, by first | trivial | omega⟩)⟩
  · skip
    refine go_ret (k := 3) (r := some (.inl 1)) (w1 := (SH, dt)) (fun _ => rfl) ?_
    exact ⟨rfl, (Or.inl ⟨rfl, by first | trivial | omega⟩)⟩
theorem sp_X2_at_33 (X : am_X) (d : Nat) (dt : Nat → Nat → Int) (hI : InvC dt)  (row : Int) (h_row : (-2147483648) ≤ row ∧ row ≤ 2147483647) (column : Int) (h_column : (-2147483648) ≤ column ∧ column ≤ 2147483647)  : GO X (d + 1) 39 0 [some (.inr (.inr (some 33))), some (.inl row), some (.inl column)] [] (SH, dt) (fun r w2 => w2 = (SH, dt) ∧ ((∃ v : Int, r = some (.inl v) ∧ ((-2147483648) ≤ v ∧ v ≤ 2147483647) ∧ True))) := by
  have r1 : 0 ≤ dt 33 3 ∧ dt 33 3 ≤ 20 := InvC_get hI 33 3 rfl rfl
  refine go_to (k := 2) (pc' := 2) (L' := [some (.inr (.inr (some 33))), some (.inl row), some (.inl column)]) (st' := [.inl row, .inr (.inr (some 33))]) (w' := (SH, dt)) (fun _ => rfl) ?_
  refine go_call (Q' := _) rfl rfl rfl rfl rfl (sp_X2_has_33 X (d + 0) dt hI  row ⟨by omega, by omega⟩ ) ?_
  rintro _ _ ⟨rfl, h2⟩
  refine ⟨rfl, ?_⟩
  rcases h2 with ⟨rfl, h2⟩ | ⟨rfl, h2⟩
  · skip
    refine go_if (k := 3) (p1 := 36) (p2 := 12) (L' := [some (.inr (.inr (some 33))), some (.inl row), some (.inl column)]) (st' := []) (w' := (SH, dt)) (fun _ => rfl) (z_lt (a := column) ⟨by omega, by omega⟩) (fun c3 => ?_) (fun c3 => ?_)
    · skip
      refine go_ret (k := 2) (r := some (.inl (-1))) (w1 := (SH, dt)) (fun _ => rfl) ?_
      exact ⟨rfl, ⟨_, rfl, ⟨by omega, by omega⟩, trivial⟩⟩
    · skip
      refine go_to (k := 2) (pc' := 14) (L' := [some (.inr (.inr (some 33))), some (.inl row), some (.inl column)]) (st' := [.inr (.inr (some 33)), .inl column]) (w' := (SH, dt)) (fun _ => rfl) ?_
      refine go_smp (L' := [some (.inr (.inr (some 33))), some (.inl row), some (.inl column)]) (st' := [.inl 2, .inl column]) (w' := (SH, dt)) rfl rfl (s_gfc rfl rfl rfl (hI.2 33 1 rfl)) ?_
      refine go_if (k := 1) (p1 := 36) (p2 := 20) (L' := [some (.inr (.inr (some 33))), some (.inl row), some (.inl column)]) (st' := []) (w' := (SH, dt)) (fun _ => rfl) (c_ge (a := column) (b := 2) ⟨by omega, by omega⟩ ⟨by omega, by omega⟩) (fun c4 => ?_) (fun c4 => ?_)
      · skip
        refine go_ret (k := 2) (r := some (.inl (-1))) (w1 := (SH, dt)) (fun _ => rfl) ?_
        exact ⟨rfl, ⟨_, rfl, ⟨by omega, by omega⟩, trivial⟩⟩
      · skip
        refine go_to (k := 4) (pc' := 26) (L' := [some (.inr (.inr (some 33))), some (.inl row), some (.inl column)]) (st' := [.inr (.inr (some 33)), .inl row, .inr (.inr (some 34))]) (w' := (SH, dt)) (fun _ => rfl) ?_
        refine go_smp (L' := [some (.inr (.inr (some 33))), some (.inl row), some (.inl column)]) (st' := [.inl 2, .inl row, .inr (.inr (some 34))]) (w' := (SH, dt)) rfl rfl (s_gfc rfl rfl rfl (hI.2 33 1 rfl)) ?_
        refine go_to (k := 3) (pc' := 32) (L' := [some (.inr (.inr (some 33))), some (.inl row), some (.inl column)]) (st' := [.inl ((row * 2) + column), .inr (.inr (some 34))]) (w' := (SH, dt)) (fun _ => rfl) ?_
        have r5 : (-2147483648) ≤ dt 34 (((row * 2) + column).toNat) ∧ dt 34 (((row * 2) + column).toNat) ≤ 2147483647 := InvC_get hI 34 (((row * 2) + column).toNat) rfl rfl
        refine go_smp (L' := [some (.inr (.inr (some 33))), some (.inl row), some (.inl column)]) (st' := [.inl (dt 34 (((row * 2) + column).toNat))]) (w' := (SH, dt)) rfl rfl (s_iald (n := 40) (f := dt 34) rfl ⟨by omega, by omega⟩) ?_
        refine go_ret (k := 2) (r := some (.inl (dt 34 (((row * 2) + column).toNat)))) (w1 := (SH, dt)) (fun _ => rfl) ?_
        exact ⟨rfl, ⟨_, rfl, ⟨by omega, by omega⟩, trivial⟩⟩
  · skip
    refine go_ret (k := 3) (r := some (.inl (-1))) (w1 := (SH, dt)) (fun _ => rfl) ?_
    exact ⟨rfl, ⟨_, rfl, ⟨by omega, by omega⟩, trivial⟩⟩
