theorem sp_X6_isIn (L : Nat) (xs : Nat → Int32) (sio : Option Nat) (d : Nat) (dt : Nat → Nat → Int) (hI : InvC dt)  (p1 : Int) (h_p1 : (-2147483648) ≤ p1 ∧ p1 ≤ 2147483647) (p2 : Int) (h_p2 : (-2147483648) ≤ p2 ∧ p2 ≤ 2147483647) (p3 : Int) (h_p3 : (-2147483648) ≤ p3 ∧ p3 ≤ 2147483647)  : GO (am_XX L xs sio) (d) 146 0 [some (.inl p1), some (.inl p2), some (.inl p3)] [] (SH, dt) (fun r w2 => w2 = (SH, dt) ∧ ((r = some (.inl 1) ∧ (p2 ≤ p1 ∧ p1 ≤ p3)) ∨ (r = some (.inl 0) ∧ (¬ (p2 ≤ p1 ∧ p1 ≤ p3))))) := by
  refine go_ifq PM146 (k := 2) (p1 := 14) (p2 := 5) (L' := [some (.inl p1), some (.inl p2), some (.inl p3)]) (st' := []) (w' := (SH, dt)) rfl (c_lt (a := p1) (b := p2) (by first | exact bnd h_p1 (by decide) (by decide) | exact ⟨by fail, by fail⟩) (by first | exact bnd h_p2 (by decide) (by decide) | exact ⟨by fail, by fail⟩)) (fun c1 => ?_) (fun c1 => ?_)
  · skip
    refine go_retq PM146 (k := 1) (r := some (.inl 0)) (w1 := (SH, dt)) rfl ?_
    exact ⟨rfl, (Or.inr ⟨rfl, by first | exact True.intro | with_reducible assumption | rfl | omega | trivial⟩)⟩
  · skip
    refine go_ifq PM146 (k := 2) (p1 := 14) (p2 := 10) (L' := [some (.inl p1), some (.inl p2), some (.inl p3)]) (st' := []) (w' := (SH, dt)) rfl (c_gt (a := p1) (b := p3) (by first | exact bnd h_p1 (by decide) (by decide) | exact ⟨by fail, by fail⟩) (by first | exact bnd h_p3 (by decide) (by decide) | exact ⟨by fail, by fail⟩)) (fun c2 => ?_) (fun c2 => ?_)
    · skip
      refine go_retq PM146 (k := 1) (r := some (.inl 0)) (w1 := (SH, dt)) rfl ?_
      exact ⟨rfl, (Or.inr ⟨rfl, by first | exact True.intro | with_reducible assumption | rfl | omega | trivial⟩)⟩
    · skip
      refine go_retq PM146 (k := 2) (r := some (.inl 1)) (w1 := (SH, dt)) rfl ?_
      exact ⟨rfl, (Or.inl ⟨rfl, by first | exact True.intro | with_reducible assumption | rfl | omega | trivial⟩)⟩
theorem sp_X6_apart (L : Nat) (xs : Nat → Int32) (sio : Option Nat) (d : Nat) (dt : Nat → Nat → Int) (hI : InvC dt)  (p1 : Int) (p2 : Int)  : GO (am_XX L xs sio) (d) 147 0 [some (.inl p1), some (.inl p2)] [] (SH, dt) (fun r w2 => w2 = (SH, dt) ∧ ((∃ v : Int, r = some (.inl v) ∧ True ∧ True))) := by
  have j4 : ∀ (j4_s0 : Int), GO (am_XX L xs sio) (d) 147 14 [none, none] [.inl j4_s0] (SH, dt) (fun r w2 => w2 = (SH, dt) ∧ ((∃ v : Int, r = some (.inl v) ∧ True ∧ True))) := by
    intro j4_s0
    refine go_retq PM147 (k := 0) (r := some (.inl j4_s0)) (w1 := (SH, dt)) rfl ?_
    exact ⟨rfl, ⟨_, rfl, trivial, trivial⟩⟩
  have r6 := wr_RR p1
  have r7 := wr_RR p2
  refine go_ifq PM147 (k := 2) (p1 := 11) (p2 := 5) (L' := [some (.inl p1), some (.inl p2)]) (st' := []) (w' := (SH, dt)) rfl (u_le (a := wr p1) (b := wr p2)) (fun c5 => ?_) (fun c5 => ?_)
  · skip
    refine go_toq PM147 (k := 3) (pc' := 14) (L' := [some (.inl p1), some (.inl p2)]) (st' := [.inl (p2 - p1)]) (w' := (SH, dt)) rfl ?_
    exact GO.le (j4 (p2 - p1)) ⟨.inr ⟨rfl, trivial⟩, .inr ⟨rfl, trivial⟩, trivial⟩
  · skip
    refine go_toq PM147 (k := 4) (pc' := 14) (L' := [some (.inl p1), some (.inl p2)]) (st' := [.inl (p1 - p2)]) (w' := (SH, dt)) rfl ?_
    exact GO.le (j4 (p1 - p2)) ⟨.inr ⟨rfl, trivial⟩, .inr ⟨rfl, trivial⟩, trivial⟩
theorem sp_X6_root (L : Nat) (xs : Nat → Int32) (sio : Option Nat) (d : Nat) (dt : Nat → Nat → Int) (hI : InvC dt)  (p1 : Int) (h_p1 : 0 ≤ p1 ∧ p1 ≤ 1000)  : GO (am_XX L xs sio) (d) 148 0 [some (.inl p1), none] [] (SH, dt) (fun r w2 => w2 = (SH, dt) ∧ ((∃ v : Int, r = some (.inl v) ∧ (0 ≤ v ∧ v ≤ 32) ∧ (1 ≤ p1 → 1 ≤ v)))) := by
  refine go_toq PM148 (k := 2) (pc' := 2) (L' := [some (.inl p1), some (.inl 0)]) (st' := []) (w' := (SH, dt)) rfl ?_
  have loop6 : ∀ (k_ : Nat) (l2_1 : Int) (i5 : 0 ≤ l2_1 ∧ l2_1 ≤ 32), (33 - l2_1).toNat < k_ → GO (am_XX L xs sio) (d) 148 2 [some (.inl p1), some (.inl l2_1)] [] (SH, dt) (fun r w2 => w2 = (SH, dt) ∧ ((∃ v : Int, r = some (.inl v) ∧ (0 ≤ v ∧ v ≤ 32) ∧ (1 ≤ p1 → 1 ≤ v)))) := by
    intro k_
    induction k_ with
    | zero => intro l2_1 i5 hm; exact absurd hm (Nat.not_lt_zero _)
    | succ k_ ih_loop6 =>
      intro l2_1 i5 hm
      have hq := sq_R (r := l2_1) (by omega)
      have hv : wr p1 = p1 := wr_R ⟨by omega, by omega⟩
      have hw : wr ((l2_1 + 1) * (l2_1 + 1)) = (l2_1 + 1) * (l2_1 + 1) := wr_R ⟨by omega, by omega⟩
      have r8 := wr_RR ((l2_1 + 1) * (l2_1 + 1))
      have r9 := wr_RR p1
      refine go_ifq PM148 (k := 8) (p1 := 19) (p2 := 13) (L' := [some (.inl p1), some (.inl l2_1)]) (st' := []) (w' := (SH, dt)) rfl (u_gt (a := wr ((l2_1 + 1) * (l2_1 + 1))) (b := wr p1)) (fun c7 => ?_) (fun c7 => ?_)
      · skip
        refine go_retq PM148 (k := 1) (r := some (.inl l2_1)) (w1 := (SH, dt)) rfl ?_
        exact ⟨rfl, ⟨_, rfl, (by first | exact bnd i5 (by decide) (by decide) | exact ⟨by fail, by fail⟩), by first | exact True.intro | with_reducible assumption | rfl | omega | trivial⟩⟩
      · skip
        refine go_toq PM148 (k := 2) (pc' := 2) (L' := [some (.inl p1), some (.inl (l2_1 + 1))]) (st' := []) (w' := (SH, dt)) rfl ?_
        exact GO.le (ih_loop6 (l2_1 + 1) (by first | exact bndp i5 (by decide) (by decide) | omega) (by omega)) ⟨.inl rfl, .inl rfl, trivial⟩
  exact GO.le (loop6 _ 0 ⟨by decide, by decide⟩ (Nat.lt_succ_self _)) ⟨.inl rfl, .inl rfl, trivial⟩
set_option maxRecDepth 20000 in
theorem sp_X6_isScene (L : Nat) (xs : Nat → Int32) (sio : Option Nat) (d : Nat) (dt : Nat → Nat → Int) (hI : InvC dt)  (p1 : Int) (h_p1 : (-2147483648) ≤ p1 ∧ p1 ≤ 2147483647)  : GO (am_XX L xs sio) (d + 1) 185 0 [some (.inl p1)] [] (SH, dt) (fun r w2 => w2 = (SH, dt) ∧ ((r = some (.inl 1) ∧ (0 ≤ p1 ∧ p1 ≤ 7)) ∨ (r = some (.inl 0) ∧ (¬ (0 ≤ p1 ∧ p1 ≤ 7))))) := by
  refine go_toq PM185 (k := 3) (pc' := 4) (L' := [some (.inl p1)]) (st' := [.inl 7, .inl 0, .inl p1]) (w' := (SH, dt)) rfl ?_
  refine go_callq PM185 PM146 (Q' := _) rfl rfl rfl rfl (sp_X6_isIn L xs sio (d + 0) dt hI  p1 (by first | exact h_p1 | exact bnd h_p1 (by decide) (by decide) | exact ⟨by fail, by fail⟩) 0 ⟨by decide, by decide⟩ 7 ⟨by decide, by decide⟩ ) ?_
  rintro _ _ ⟨rfl, h1⟩
  refine ⟨rfl, ?_⟩
  rcases h1 with ⟨rfl, h1⟩ | ⟨rfl, h1⟩
  · skip
    refine go_retq PM185 (k := 0) (r := some (.inl 1)) (w1 := (SH, dt)) rfl ?_
    exact ⟨rfl, (Or.inl ⟨rfl, by first | exact True.intro | with_reducible assumption | rfl | fail | trivial⟩)⟩
  · skip
    refine go_retq PM185 (k := 0) (r := some (.inl 0)) (w1 := (SH, dt)) rfl ?_
    exact ⟨rfl, (Or.inr ⟨rfl, by first | exact True.intro | with_reducible assumption | rfl | fail | trivial⟩)⟩
set_option maxRecDepth 20000 in
theorem sp_X6_isLaw (L : Nat) (xs : Nat → Int32) (sio : Option Nat) (d : Nat) (dt : Nat → Nat → Int) (hI : InvC dt)  (p1 : Int) (h_p1 : (-2147483648) ≤ p1 ∧ p1 ≤ 2147483647)  : GO (am_XX L xs sio) (d + 1) 200 0 [some (.inl p1)] [] (SH, dt) (fun r w2 => w2 = (SH, dt) ∧ ((r = some (.inl 1) ∧ (0 ≤ p1 ∧ p1 ≤ 3)) ∨ (r = some (.inl 0) ∧ (¬ (0 ≤ p1 ∧ p1 ≤ 3))))) := by
  refine go_toq PM200 (k := 3) (pc' := 3) (L' := [some (.inl p1)]) (st' := [.inl 3, .inl 0, .inl p1]) (w' := (SH, dt)) rfl ?_
  refine go_callq PM200 PM146 (Q' := _) rfl rfl rfl rfl (sp_X6_isIn L xs sio (d + 0) dt hI  p1 (by first | exact h_p1 | exact bnd h_p1 (by decide) (by decide) | exact ⟨by fail, by fail⟩) 0 ⟨by decide, by decide⟩ 3 ⟨by decide, by decide⟩ ) ?_
  rintro _ _ ⟨rfl, h1⟩
  refine ⟨rfl, ?_⟩
  rcases h1 with ⟨rfl, h1⟩ | ⟨rfl, h1⟩
  · skip
    refine go_retq PM200 (k := 0) (r := some (.inl 1)) (w1 := (SH, dt)) rfl ?_
    exact ⟨rfl, (Or.inl ⟨rfl, by first | exact True.intro | with_reducible assumption | rfl | fail | trivial⟩)⟩
  · skip
    refine go_retq PM200 (k := 0) (r := some (.inl 0)) (w1 := (SH, dt)) rfl ?_
    exact ⟨rfl, (Or.inr ⟨rfl, by first | exact True.intro | with_reducible assumption | rfl | fail | trivial⟩)⟩
set_option maxRecDepth 20000 in
theorem sp_X6_isThing (L : Nat) (xs : Nat → Int32) (sio : Option Nat) (d : Nat) (dt : Nat → Nat → Int) (hI : InvC dt)  (p1 : Int) (h_p1 : (-2147483648) ≤ p1 ∧ p1 ≤ 2147483647)  : GO (am_XX L xs sio) (d + 1) 187 0 [some (.inl p1)] [] (SH, dt) (fun r w2 => w2 = (SH, dt) ∧ ((r = some (.inl 1) ∧ (0 ≤ p1 ∧ p1 ≤ 2)) ∨ (r = some (.inl 0) ∧ (¬ (0 ≤ p1 ∧ p1 ≤ 2))))) := by
  refine go_toq PM187 (k := 3) (pc' := 3) (L' := [some (.inl p1)]) (st' := [.inl 2, .inl 0, .inl p1]) (w' := (SH, dt)) rfl ?_
  refine go_callq PM187 PM146 (Q' := _) rfl rfl rfl rfl (sp_X6_isIn L xs sio (d + 0) dt hI  p1 (by first | exact h_p1 | exact bnd h_p1 (by decide) (by decide) | exact ⟨by fail, by fail⟩) 0 ⟨by decide, by decide⟩ 2 ⟨by decide, by decide⟩ ) ?_
  rintro _ _ ⟨rfl, h1⟩
  refine ⟨rfl, ?_⟩
  rcases h1 with ⟨rfl, h1⟩ | ⟨rfl, h1⟩
  · skip
    refine go_retq PM187 (k := 0) (r := some (.inl 1)) (w1 := (SH, dt)) rfl ?_
    exact ⟨rfl, (Or.inl ⟨rfl, by first | exact True.intro | with_reducible assumption | rfl | fail | trivial⟩)⟩
  · skip
    refine go_retq PM187 (k := 0) (r := some (.inl 0)) (w1 := (SH, dt)) rfl ?_
    exact ⟨rfl, (Or.inr ⟨rfl, by first | exact True.intro | with_reducible assumption | rfl | fail | trivial⟩)⟩
set_option maxRecDepth 20000 in
theorem sp_X6_isWho (L : Nat) (xs : Nat → Int32) (sio : Option Nat) (d : Nat) (dt : Nat → Nat → Int) (hI : InvC dt)  (p1 : Int) (h_p1 : (-2147483648) ≤ p1 ∧ p1 ≤ 2147483647)  : GO (am_XX L xs sio) (d + 1) 186 0 [some (.inl p1)] [] (SH, dt) (fun r w2 => w2 = (SH, dt) ∧ ((r = some (.inl 1) ∧ (0 ≤ p1 ∧ p1 ≤ 3)) ∨ (r = some (.inl 0) ∧ (¬ (0 ≤ p1 ∧ p1 ≤ 3))))) := by
  refine go_toq PM186 (k := 3) (pc' := 3) (L' := [some (.inl p1)]) (st' := [.inl 3, .inl 0, .inl p1]) (w' := (SH, dt)) rfl ?_
  refine go_callq PM186 PM146 (Q' := _) rfl rfl rfl rfl (sp_X6_isIn L xs sio (d + 0) dt hI  p1 (by first | exact h_p1 | exact bnd h_p1 (by decide) (by decide) | exact ⟨by fail, by fail⟩) 0 ⟨by decide, by decide⟩ 3 ⟨by decide, by decide⟩ ) ?_
  rintro _ _ ⟨rfl, h1⟩
  refine ⟨rfl, ?_⟩
  rcases h1 with ⟨rfl, h1⟩ | ⟨rfl, h1⟩
  · skip
    refine go_retq PM186 (k := 0) (r := some (.inl 1)) (w1 := (SH, dt)) rfl ?_
    exact ⟨rfl, (Or.inl ⟨rfl, by first | exact True.intro | with_reducible assumption | rfl | fail | trivial⟩)⟩
  · skip
    refine go_retq PM186 (k := 0) (r := some (.inl 0)) (w1 := (SH, dt)) rfl ?_
    exact ⟨rfl, (Or.inr ⟨rfl, by first | exact True.intro | with_reducible assumption | rfl | fail | trivial⟩)⟩
set_option maxRecDepth 20000 in
theorem sp_X6_isRule (L : Nat) (xs : Nat → Int32) (sio : Option Nat) (d : Nat) (dt : Nat → Nat → Int) (hI : InvC dt)  (p1 : Int) (h_p1 : (-2147483648) ≤ p1 ∧ p1 ≤ 2147483647)  : GO (am_XX L xs sio) (d + 1) 217 0 [some (.inl p1)] [] (SH, dt) (fun r w2 => w2 = (SH, dt) ∧ ((r = some (.inl 1) ∧ (0 ≤ p1 ∧ p1 ≤ 7)) ∨ (r = some (.inl 0) ∧ (¬ (0 ≤ p1 ∧ p1 ≤ 7))))) := by
  refine go_toq PM217 (k := 3) (pc' := 4) (L' := [some (.inl p1)]) (st' := [.inl 7, .inl 0, .inl p1]) (w' := (SH, dt)) rfl ?_
  refine go_callq PM217 PM146 (Q' := _) rfl rfl rfl rfl (sp_X6_isIn L xs sio (d + 0) dt hI  p1 (by first | exact h_p1 | exact bnd h_p1 (by decide) (by decide) | exact ⟨by fail, by fail⟩) 0 ⟨by decide, by decide⟩ 7 ⟨by decide, by decide⟩ ) ?_
  rintro _ _ ⟨rfl, h1⟩
  refine ⟨rfl, ?_⟩
  rcases h1 with ⟨rfl, h1⟩ | ⟨rfl, h1⟩
  · skip
    refine go_retq PM217 (k := 0) (r := some (.inl 1)) (w1 := (SH, dt)) rfl ?_
    exact ⟨rfl, (Or.inl ⟨rfl, by first | exact True.intro | with_reducible assumption | rfl | fail | trivial⟩)⟩
  · skip
    refine go_retq PM217 (k := 0) (r := some (.inl 0)) (w1 := (SH, dt)) rfl ?_
    exact ⟨rfl, (Or.inr ⟨rfl, by first | exact True.intro | with_reducible assumption | rfl | fail | trivial⟩)⟩
set_option maxRecDepth 20000 in
theorem sp_X6_isAnswer (L : Nat) (xs : Nat → Int32) (sio : Option Nat) (d : Nat) (dt : Nat → Nat → Int) (hI : InvC dt)  (p1 : Int) (h_p1 : (-2147483648) ≤ p1 ∧ p1 ≤ 2147483647)  : GO (am_XX L xs sio) (d + 1) 212 0 [some (.inl p1)] [] (SH, dt) (fun r w2 => w2 = (SH, dt) ∧ ((r = some (.inl 1) ∧ ((-1) ≤ p1 ∧ p1 ≤ 3)) ∨ (r = some (.inl 0) ∧ (¬ ((-1) ≤ p1 ∧ p1 ≤ 3))))) := by
  refine go_toq PM212 (k := 3) (pc' := 3) (L' := [some (.inl p1)]) (st' := [.inl 3, .inl (-1), .inl p1]) (w' := (SH, dt)) rfl ?_
  refine go_callq PM212 PM146 (Q' := _) rfl rfl rfl rfl (sp_X6_isIn L xs sio (d + 0) dt hI  p1 (by first | exact h_p1 | exact bnd h_p1 (by decide) (by decide) | exact ⟨by fail, by fail⟩) (-1) ⟨by decide, by decide⟩ 3 ⟨by decide, by decide⟩ ) ?_
  rintro _ _ ⟨rfl, h1⟩
  refine ⟨rfl, ?_⟩
  rcases h1 with ⟨rfl, h1⟩ | ⟨rfl, h1⟩
  · skip
    refine go_retq PM212 (k := 0) (r := some (.inl 1)) (w1 := (SH, dt)) rfl ?_
    exact ⟨rfl, (Or.inl ⟨rfl, by first | exact True.intro | with_reducible assumption | rfl | fail | trivial⟩)⟩
  · skip
    refine go_retq PM212 (k := 0) (r := some (.inl 0)) (w1 := (SH, dt)) rfl ?_
    exact ⟨rfl, (Or.inr ⟨rfl, by first | exact True.intro | with_reducible assumption | rfl | fail | trivial⟩)⟩
set_option maxRecDepth 20000 in
theorem sp_X6_isHow (L : Nat) (xs : Nat → Int32) (sio : Option Nat) (d : Nat) (dt : Nat → Nat → Int) (hI : InvC dt)  (p1 : Int) (h_p1 : (-2147483648) ≤ p1 ∧ p1 ≤ 2147483647)  : GO (am_XX L xs sio) (d + 1) 201 0 [some (.inl p1)] [] (SH, dt) (fun r w2 => w2 = (SH, dt) ∧ ((r = some (.inl 1) ∧ (0 ≤ p1 ∧ p1 ≤ 3)) ∨ (r = some (.inl 0) ∧ (¬ (0 ≤ p1 ∧ p1 ≤ 3))))) := by
  refine go_toq PM201 (k := 3) (pc' := 3) (L' := [some (.inl p1)]) (st' := [.inl 3, .inl 0, .inl p1]) (w' := (SH, dt)) rfl ?_
  refine go_callq PM201 PM146 (Q' := _) rfl rfl rfl rfl (sp_X6_isIn L xs sio (d + 0) dt hI  p1 (by first | exact h_p1 | exact bnd h_p1 (by decide) (by decide) | exact ⟨by fail, by fail⟩) 0 ⟨by decide, by decide⟩ 3 ⟨by decide, by decide⟩ ) ?_
  rintro _ _ ⟨rfl, h1⟩
  refine ⟨rfl, ?_⟩
  rcases h1 with ⟨rfl, h1⟩ | ⟨rfl, h1⟩
  · skip
    refine go_retq PM201 (k := 0) (r := some (.inl 1)) (w1 := (SH, dt)) rfl ?_
    exact ⟨rfl, (Or.inl ⟨rfl, by first | exact True.intro | with_reducible assumption | rfl | fail | trivial⟩)⟩
  · skip
    refine go_retq PM201 (k := 0) (r := some (.inl 0)) (w1 := (SH, dt)) rfl ?_
    exact ⟨rfl, (Or.inr ⟨rfl, by first | exact True.intro | with_reducible assumption | rfl | fail | trivial⟩)⟩
set_option maxRecDepth 20000 in
theorem sp_X6_begins (L : Nat) (xs : Nat → Int32) (sio : Option Nat) (d : Nat) (dt : Nat → Nat → Int) (hI : InvC dt)    : GO (am_XX L xs sio) (d) 177 0 [some (.inr (.inr (some 79))), none] [] (SH, dt) (fun r w2 => ∃ dt2 : Nat → Nat → Int, w2 = (SH, dt2) ∧ InvC dt2 ∧ Fr [88, 89, 90, 91, 92, 93, 94, 95, 96, 97, 98, 99, 100] dt dt2 ∧ ((r = none ∧ True))) := by
  have hF : Fr [88, 89, 90, 91, 92, 93, 94, 95, 96, 97, 98, 99, 100] dt dt := Fr_refl
  refine go_toq PM177 (k := 2) (pc' := 2) (L' := [some (.inr (.inr (some 79))), some (.inl 0)]) (st' := []) (w' := (SH, dt)) rfl ?_
  have loop55 : ∀ (k_ : Nat) (l2_1 : Int) (dt51 : Nat → Nat → Int) (hI52 : InvC dt51) (hF53 : Fr [88, 89, 90, 91, 92, 93, 94, 95, 96, 97, 98, 99, 100] dt dt51) (i54 : 0 ≤ l2_1 ∧ l2_1 ≤ 4), (5 - l2_1).toNat < k_ → GO (am_XX L xs sio) (d) 177 2 [some (.inr (.inr (some 79))), some (.inl l2_1)] [] (SH, dt51) (fun r w2 => ∃ dt2 : Nat → Nat → Int, w2 = (SH, dt2) ∧ InvC dt2 ∧ Fr [88, 89, 90, 91, 92, 93, 94, 95, 96, 97, 98, 99, 100] dt dt2 ∧ ((r = none ∧ True))) := by
    intro k_
    induction k_ with
    | zero => intro l2_1 dt51 hI52 hF53 i54 hm; exact absurd hm (Nat.not_lt_zero _)
    | succ k_ ih_loop55 =>
      intro l2_1 dt51 hI52 hF53 i54 hm
      refine go_ifq PM177 (k := 2) (p1 := 47) (p2 := 7) (L' := [some (.inr (.inr (some 79))), some (.inl l2_1)]) (st' := []) (w' := (SH, dt51)) rfl (c_ge (a := l2_1) (b := 4) (by first | exact bnd i54 (by decide) (by decide) | exact ⟨by fail, by fail⟩) ⟨by decide, by decide⟩) (fun c65 => ?_) (fun c65 => ?_)
      · skip
        refine go_toq PM177 (k := 2) (pc' := 49) (L' := [some (.inr (.inr (some 79))), some (.inl 0)]) (st' := []) (w' := (SH, dt51)) rfl ?_
        have loop110 : ∀ (k_ : Nat) (l49_1 : Int) (dt106 : Nat → Nat → Int) (hI107 : InvC dt106) (hF108 : Fr [88, 89, 90, 91, 92, 93, 94, 95, 96, 97, 98, 99, 100] dt dt106) (i109 : 0 ≤ l49_1 ∧ l49_1 ≤ 3), (4 - l49_1).toNat < k_ → GO (am_XX L xs sio) (d) 177 49 [some (.inr (.inr (some 79))), some (.inl l49_1)] [] (SH, dt106) (fun r w2 => ∃ dt2 : Nat → Nat → Int, w2 = (SH, dt2) ∧ InvC dt2 ∧ Fr [88, 89, 90, 91, 92, 93, 94, 95, 96, 97, 98, 99, 100] dt dt2 ∧ ((r = none ∧ True))) := by
          intro k_
          induction k_ with
          | zero => intro l49_1 dt106 hI107 hF108 i109 hm; exact absurd hm (Nat.not_lt_zero _)
          | succ k_ ih_loop110 =>
            intro l49_1 dt106 hI107 hF108 i109 hm
            refine go_ifq PM177 (k := 2) (p1 := 88) (p2 := 54) (L' := [some (.inr (.inr (some 79))), some (.inl l49_1)]) (st' := []) (w' := (SH, dt106)) rfl (c_ge (a := l49_1) (b := 3) (by first | exact bnd i109 (by decide) (by decide) | exact ⟨by fail, by fail⟩) ⟨by decide, by decide⟩) (fun c120 => ?_) (fun c120 => ?_)
            · skip
              refine go_toq PM177 (k := 2) (pc' := 90) (L' := [some (.inr (.inr (some 79))), some (.inl 0)]) (st' := []) (w' := (SH, dt106)) rfl ?_
              have loop205 : ∀ (k_ : Nat) (l90_1 : Int) (dt201 : Nat → Nat → Int) (hI202 : InvC dt201) (hF203 : Fr [88, 89, 90, 91, 92, 93, 94, 95, 96, 97, 98, 99, 100] dt dt201) (i204 : 0 ≤ l90_1 ∧ l90_1 ≤ 12), (13 - l90_1).toNat < k_ → GO (am_XX L xs sio) (d) 177 90 [some (.inr (.inr (some 79))), some (.inl l90_1)] [] (SH, dt201) (fun r w2 => ∃ dt2 : Nat → Nat → Int, w2 = (SH, dt2) ∧ InvC dt2 ∧ Fr [88, 89, 90, 91, 92, 93, 94, 95, 96, 97, 98, 99, 100] dt dt2 ∧ ((r = none ∧ True))) := by
                intro k_
                induction k_ with
                | zero => intro l90_1 dt201 hI202 hF203 i204 hm; exact absurd hm (Nat.not_lt_zero _)
                | succ k_ ih_loop205 =>
                  intro l90_1 dt201 hI202 hF203 i204 hm
                  refine go_ifq PM177 (k := 2) (p1 := 130) (p2 := 96) (L' := [some (.inr (.inr (some 79))), some (.inl l90_1)]) (st' := []) (w' := (SH, dt201)) rfl (c_ge (a := l90_1) (b := 12) (by first | exact bnd i204 (by decide) (by decide) | exact ⟨by fail, by fail⟩) ⟨by decide, by decide⟩) (fun c215 => ?_) (fun c215 => ?_)
                  · skip
                    refine go_toq PM177 (k := 2) (pc' := 132) (L' := [some (.inr (.inr (some 79))), some (.inl 0)]) (st' := []) (w' := (SH, dt201)) rfl ?_
                    have loop252 : ∀ (k_ : Nat) (l132_1 : Int) (dt248 : Nat → Nat → Int) (hI249 : InvC dt248) (hF250 : Fr [88, 89, 90, 91, 92, 93, 94, 95, 96, 97, 98, 99, 100] dt dt248) (i251 : 0 ≤ l132_1 ∧ l132_1 ≤ 48), (49 - l132_1).toNat < k_ → GO (am_XX L xs sio) (d) 177 132 [some (.inr (.inr (some 79))), some (.inl l132_1)] [] (SH, dt248) (fun r w2 => ∃ dt2 : Nat → Nat → Int, w2 = (SH, dt2) ∧ InvC dt2 ∧ Fr [88, 89, 90, 91, 92, 93, 94, 95, 96, 97, 98, 99, 100] dt dt2 ∧ ((r = none ∧ True))) := by
                      intro k_
                      induction k_ with
                      | zero => intro l132_1 dt248 hI249 hF250 i251 hm; exact absurd hm (Nat.not_lt_zero _)
                      | succ k_ ih_loop252 =>
                        intro l132_1 dt248 hI249 hF250 i251 hm
                        refine go_ifq PM177 (k := 2) (p1 := 151) (p2 := 138) (L' := [some (.inr (.inr (some 79))), some (.inl l132_1)]) (st' := []) (w' := (SH, dt248)) rfl (c_ge (a := l132_1) (b := 48) (by first | exact bnd i251 (by decide) (by decide) | exact ⟨by fail, by fail⟩) ⟨by decide, by decide⟩) (fun c256 => ?_) (fun c256 => ?_)
                        · skip
                          refine go_toq PM177 (k := 2) (pc' := 153) (L' := [some (.inr (.inr (some 79))), some (.inl 0)]) (st' := []) (w' := (SH, dt248)) rfl ?_
                          have loop293 : ∀ (k_ : Nat) (l153_1 : Int) (dt289 : Nat → Nat → Int) (hI290 : InvC dt289) (hF291 : Fr [88, 89, 90, 91, 92, 93, 94, 95, 96, 97, 98, 99, 100] dt dt289) (i292 : 0 ≤ l153_1 ∧ l153_1 ≤ 6), (7 - l153_1).toNat < k_ → GO (am_XX L xs sio) (d) 177 153 [some (.inr (.inr (some 79))), some (.inl l153_1)] [] (SH, dt289) (fun r w2 => ∃ dt2 : Nat → Nat → Int, w2 = (SH, dt2) ∧ InvC dt2 ∧ Fr [88, 89, 90, 91, 92, 93, 94, 95, 96, 97, 98, 99, 100] dt dt2 ∧ ((r = none ∧ True))) := by
                            intro k_
                            induction k_ with
                            | zero => intro l153_1 dt289 hI290 hF291 i292 hm; exact absurd hm (Nat.not_lt_zero _)
                            | succ k_ ih_loop293 =>
                              intro l153_1 dt289 hI290 hF291 i292 hm
                              refine go_ifq PM177 (k := 2) (p1 := 172) (p2 := 159) (L' := [some (.inr (.inr (some 79))), some (.inl l153_1)]) (st' := []) (w' := (SH, dt289)) rfl (c_ge (a := l153_1) (b := 6) (by first | exact bnd i292 (by decide) (by decide) | exact ⟨by fail, by fail⟩) ⟨by decide, by decide⟩) (fun c297 => ?_) (fun c297 => ?_)
                              · skip
                                refine go_retq PM177 (k := 0) (r := none) (w1 := (SH, dt289)) rfl ?_
                                exact ⟨dt289, rfl, hI290, hF291, ⟨rfl, trivial⟩⟩
                              · skip
                                refine go_toq PM177 (k := 4) (pc' := 165) (L' := [some (.inr (.inr (some 79))), some (.inl l153_1)]) (st' := [.inl (-1), .inl l153_1, .inr (.inr (some 100))]) (w' := (SH, dt289)) rfl ?_
                                have hI298 : InvC (u2 dt289 100 (l153_1).toNat (-1)) := InvC_u2 hI290 (lo := -2147483648) (hi := 2147483647) rfl rfl rfl (by decide) (by decide)
                                have hF299 : Fr [88, 89, 90, 91, 92, 93, 94, 95, 96, 97, 98, 99, 100] dt (u2 dt289 100 (l153_1).toNat (-1)) := Fr_u2 hF291 (by decide)
                                refine go_smpq PM177 (L' := [some (.inr (.inr (some 79))), some (.inl l153_1)]) (st' := []) (w' := (SH, (u2 dt289 100 (l153_1).toNat (-1)))) rfl rfl (s_iast (n := 6) rfl (by first | exact bndc i292 c297 (by decide) (by decide) | exact bndx i292 (by decide) (by decide) | exact ⟨by fail, by fail⟩) ⟨by decide, by decide⟩) ?_
                                refine go_toq PM177 (k := 2) (pc' := 153) (L' := [some (.inr (.inr (some 79))), some (.inl (l153_1 + 1))]) (st' := []) (w' := (SH, (u2 dt289 100 (l153_1).toNat (-1)))) rfl ?_
                                exact GO.le (ih_loop293 (l153_1 + 1) (u2 dt289 100 (l153_1).toNat (-1)) hI298 hF299 (by first | exact bndp i292 (by decide) (by decide) | exact bnde i292 c297 (by decide) (by decide) | fail) (by omega)) ⟨.inl rfl, .inl rfl, trivial⟩
                          exact GO.le (loop293 _ 0 dt248 hI249 hF250 ⟨by decide, by decide⟩ (Nat.lt_succ_self _)) ⟨.inl rfl, .inl rfl, trivial⟩
                        · skip
                          refine go_toq PM177 (k := 4) (pc' := 144) (L' := [some (.inr (.inr (some 79))), some (.inl l132_1)]) (st' := [.inl (-1), .inl l132_1, .inr (.inr (some 99))]) (w' := (SH, dt248)) rfl ?_
                          have hI300 : InvC (u2 dt248 99 (l132_1).toNat (-1)) := InvC_u2 hI249 (lo := -2147483648) (hi := 2147483647) rfl rfl rfl (by decide) (by decide)
                          have hF301 : Fr [88, 89, 90, 91, 92, 93, 94, 95, 96, 97, 98, 99, 100] dt (u2 dt248 99 (l132_1).toNat (-1)) := Fr_u2 hF250 (by decide)
                          refine go_smpq PM177 (L' := [some (.inr (.inr (some 79))), some (.inl l132_1)]) (st' := []) (w' := (SH, (u2 dt248 99 (l132_1).toNat (-1)))) rfl rfl (s_iast (n := 48) rfl (by first | exact bndc i251 c256 (by decide) (by decide) | exact bndx i251 (by decide) (by decide) | exact ⟨by fail, by fail⟩) ⟨by decide, by decide⟩) ?_
                          refine go_toq PM177 (k := 2) (pc' := 132) (L' := [some (.inr (.inr (some 79))), some (.inl (l132_1 + 1))]) (st' := []) (w' := (SH, (u2 dt248 99 (l132_1).toNat (-1)))) rfl ?_
                          exact GO.le (ih_loop252 (l132_1 + 1) (u2 dt248 99 (l132_1).toNat (-1)) hI300 hF301 (by first | exact bndp i251 (by decide) (by decide) | exact bnde i251 c256 (by decide) (by decide) | fail) (by omega)) ⟨.inl rfl, .inl rfl, trivial⟩
                    exact GO.le (loop252 _ 0 dt201 hI202 hF203 ⟨by decide, by decide⟩ (Nat.lt_succ_self _)) ⟨.inl rfl, .inl rfl, trivial⟩
                  · skip
                    refine go_toq PM177 (k := 4) (pc' := 102) (L' := [some (.inr (.inr (some 79))), some (.inl l90_1)]) (st' := [.inl 0, .inl l90_1, .inr (.inr (some 90))]) (w' := (SH, dt201)) rfl ?_
                    have hI302 : InvC (u2 dt201 90 (l90_1).toNat 0) := InvC_u2 hI202 (lo := 0) (hi := 1) rfl rfl rfl (by decide) (by decide)
                    have hF303 : Fr [88, 89, 90, 91, 92, 93, 94, 95, 96, 97, 98, 99, 100] dt (u2 dt201 90 (l90_1).toNat 0) := Fr_u2 hF203 (by decide)
                    refine go_smpq PM177 (L' := [some (.inr (.inr (some 79))), some (.inl l90_1)]) (st' := []) (w' := (SH, (u2 dt201 90 (l90_1).toNat 0))) rfl rfl (s_zast (n := 12) rfl (by first | exact bndc i204 c215 (by decide) (by decide) | exact bndx i204 (by decide) (by decide) | exact ⟨by fail, by fail⟩) (by omega)) ?_
                    refine go_toq PM177 (k := 4) (pc' := 109) (L' := [some (.inr (.inr (some 79))), some (.inl l90_1)]) (st' := [.inl (-1), .inl l90_1, .inr (.inr (some 96))]) (w' := (SH, (u2 dt201 90 (l90_1).toNat 0))) rfl ?_
                    have hI304 : InvC (u2 (u2 dt201 90 (l90_1).toNat 0) 96 (l90_1).toNat (-1)) := InvC_u2 hI302 (lo := -2147483648) (hi := 2147483647) rfl rfl rfl (by decide) (by decide)
                    have hF305 : Fr [88, 89, 90, 91, 92, 93, 94, 95, 96, 97, 98, 99, 100] dt (u2 (u2 dt201 90 (l90_1).toNat 0) 96 (l90_1).toNat (-1)) := Fr_u2 hF303 (by decide)
                    refine go_smpq PM177 (L' := [some (.inr (.inr (some 79))), some (.inl l90_1)]) (st' := []) (w' := (SH, (u2 (u2 dt201 90 (l90_1).toNat 0) 96 (l90_1).toNat (-1)))) rfl rfl (s_iast (n := 12) rfl (by first | exact bndc i204 c215 (by decide) (by decide) | exact bndx i204 (by decide) (by decide) | exact ⟨by fail, by fail⟩) ⟨by decide, by decide⟩) ?_
                    refine go_toq PM177 (k := 4) (pc' := 116) (L' := [some (.inr (.inr (some 79))), some (.inl l90_1)]) (st' := [.inl (-1), .inl l90_1, .inr (.inr (some 97))]) (w' := (SH, (u2 (u2 dt201 90 (l90_1).toNat 0) 96 (l90_1).toNat (-1)))) rfl ?_
                    have hI306 : InvC (u2 (u2 (u2 dt201 90 (l90_1).toNat 0) 96 (l90_1).toNat (-1)) 97 (l90_1).toNat (-1)) := InvC_u2 hI304 (lo := -2147483648) (hi := 2147483647) rfl rfl rfl (by decide) (by decide)
                    have hF307 : Fr [88, 89, 90, 91, 92, 93, 94, 95, 96, 97, 98, 99, 100] dt (u2 (u2 (u2 dt201 90 (l90_1).toNat 0) 96 (l90_1).toNat (-1)) 97 (l90_1).toNat (-1)) := Fr_u2 hF305 (by decide)
                    refine go_smpq PM177 (L' := [some (.inr (.inr (some 79))), some (.inl l90_1)]) (st' := []) (w' := (SH, (u2 (u2 (u2 dt201 90 (l90_1).toNat 0) 96 (l90_1).toNat (-1)) 97 (l90_1).toNat (-1)))) rfl rfl (s_iast (n := 12) rfl (by first | exact bndc i204 c215 (by decide) (by decide) | exact bndx i204 (by decide) (by decide) | exact ⟨by fail, by fail⟩) ⟨by decide, by decide⟩) ?_
                    refine go_toq PM177 (k := 4) (pc' := 123) (L' := [some (.inr (.inr (some 79))), some (.inl l90_1)]) (st' := [.inl (-1), .inl l90_1, .inr (.inr (some 98))]) (w' := (SH, (u2 (u2 (u2 dt201 90 (l90_1).toNat 0) 96 (l90_1).toNat (-1)) 97 (l90_1).toNat (-1)))) rfl ?_
                    have hI308 : InvC (u2 (u2 (u2 (u2 dt201 90 (l90_1).toNat 0) 96 (l90_1).toNat (-1)) 97 (l90_1).toNat (-1)) 98 (l90_1).toNat (-1)) := InvC_u2 hI306 (lo := -2147483648) (hi := 2147483647) rfl rfl rfl (by decide) (by decide)
                    have hF309 : Fr [88, 89, 90, 91, 92, 93, 94, 95, 96, 97, 98, 99, 100] dt (u2 (u2 (u2 (u2 dt201 90 (l90_1).toNat 0) 96 (l90_1).toNat (-1)) 97 (l90_1).toNat (-1)) 98 (l90_1).toNat (-1)) := Fr_u2 hF307 (by decide)
                    refine go_smpq PM177 (L' := [some (.inr (.inr (some 79))), some (.inl l90_1)]) (st' := []) (w' := (SH, (u2 (u2 (u2 (u2 dt201 90 (l90_1).toNat 0) 96 (l90_1).toNat (-1)) 97 (l90_1).toNat (-1)) 98 (l90_1).toNat (-1)))) rfl rfl (s_iast (n := 12) rfl (by first | exact bndc i204 c215 (by decide) (by decide) | exact bndx i204 (by decide) (by decide) | exact ⟨by fail, by fail⟩) ⟨by decide, by decide⟩) ?_
                    refine go_toq PM177 (k := 2) (pc' := 90) (L' := [some (.inr (.inr (some 79))), some (.inl (l90_1 + 1))]) (st' := []) (w' := (SH, (u2 (u2 (u2 (u2 dt201 90 (l90_1).toNat 0) 96 (l90_1).toNat (-1)) 97 (l90_1).toNat (-1)) 98 (l90_1).toNat (-1)))) rfl ?_
                    exact GO.le (ih_loop205 (l90_1 + 1) (u2 (u2 (u2 (u2 dt201 90 (l90_1).toNat 0) 96 (l90_1).toNat (-1)) 97 (l90_1).toNat (-1)) 98 (l90_1).toNat (-1)) hI308 hF309 (by first | exact bndp i204 (by decide) (by decide) | exact bnde i204 c215 (by decide) (by decide) | fail) (by omega)) ⟨.inl rfl, .inl rfl, trivial⟩
              exact GO.le (loop205 _ 0 dt106 hI107 hF108 ⟨by decide, by decide⟩ (Nat.lt_succ_self _)) ⟨.inl rfl, .inl rfl, trivial⟩
            · skip
              refine go_toq PM177 (k := 4) (pc' := 60) (L' := [some (.inr (.inr (some 79))), some (.inl l49_1)]) (st' := [.inl (-1), .inl l49_1, .inr (.inr (some 92))]) (w' := (SH, dt106)) rfl ?_
              have hI310 : InvC (u2 dt106 92 (l49_1).toNat (-1)) := InvC_u2 hI107 (lo := -2147483648) (hi := 2147483647) rfl rfl rfl (by decide) (by decide)
              have hF311 : Fr [88, 89, 90, 91, 92, 93, 94, 95, 96, 97, 98, 99, 100] dt (u2 dt106 92 (l49_1).toNat (-1)) := Fr_u2 hF108 (by decide)
              refine go_smpq PM177 (L' := [some (.inr (.inr (some 79))), some (.inl l49_1)]) (st' := []) (w' := (SH, (u2 dt106 92 (l49_1).toNat (-1)))) rfl rfl (s_iast (n := 3) rfl (by first | exact bndc i109 c120 (by decide) (by decide) | exact bndx i109 (by decide) (by decide) | exact ⟨by fail, by fail⟩) ⟨by decide, by decide⟩) ?_
              refine go_toq PM177 (k := 4) (pc' := 67) (L' := [some (.inr (.inr (some 79))), some (.inl l49_1)]) (st' := [.inl 0, .inl l49_1, .inr (.inr (some 93))]) (w' := (SH, (u2 dt106 92 (l49_1).toNat (-1)))) rfl ?_
              have hI312 : InvC (u2 (u2 dt106 92 (l49_1).toNat (-1)) 93 (l49_1).toNat 0) := InvC_u2 hI310 (lo := -2147483648) (hi := 2147483647) rfl rfl rfl (by decide) (by decide)
              have hF313 : Fr [88, 89, 90, 91, 92, 93, 94, 95, 96, 97, 98, 99, 100] dt (u2 (u2 dt106 92 (l49_1).toNat (-1)) 93 (l49_1).toNat 0) := Fr_u2 hF311 (by decide)
              refine go_smpq PM177 (L' := [some (.inr (.inr (some 79))), some (.inl l49_1)]) (st' := []) (w' := (SH, (u2 (u2 dt106 92 (l49_1).toNat (-1)) 93 (l49_1).toNat 0))) rfl rfl (s_iast (n := 3) rfl (by first | exact bndc i109 c120 (by decide) (by decide) | exact bndx i109 (by decide) (by decide) | exact ⟨by fail, by fail⟩) ⟨by decide, by decide⟩) ?_
              refine go_toq PM177 (k := 4) (pc' := 74) (L' := [some (.inr (.inr (some 79))), some (.inl l49_1)]) (st' := [.inl (-1), .inl l49_1, .inr (.inr (some 94))]) (w' := (SH, (u2 (u2 dt106 92 (l49_1).toNat (-1)) 93 (l49_1).toNat 0))) rfl ?_
              have hI314 : InvC (u2 (u2 (u2 dt106 92 (l49_1).toNat (-1)) 93 (l49_1).toNat 0) 94 (l49_1).toNat (-1)) := InvC_u2 hI312 (lo := -2147483648) (hi := 2147483647) rfl rfl rfl (by decide) (by decide)
              have hF315 : Fr [88, 89, 90, 91, 92, 93, 94, 95, 96, 97, 98, 99, 100] dt (u2 (u2 (u2 dt106 92 (l49_1).toNat (-1)) 93 (l49_1).toNat 0) 94 (l49_1).toNat (-1)) := Fr_u2 hF313 (by decide)
              refine go_smpq PM177 (L' := [some (.inr (.inr (some 79))), some (.inl l49_1)]) (st' := []) (w' := (SH, (u2 (u2 (u2 dt106 92 (l49_1).toNat (-1)) 93 (l49_1).toNat 0) 94 (l49_1).toNat (-1)))) rfl rfl (s_iast (n := 3) rfl (by first | exact bndc i109 c120 (by decide) (by decide) | exact bndx i109 (by decide) (by decide) | exact ⟨by fail, by fail⟩) ⟨by decide, by decide⟩) ?_
              refine go_toq PM177 (k := 4) (pc' := 81) (L' := [some (.inr (.inr (some 79))), some (.inl l49_1)]) (st' := [.inl (-1), .inl l49_1, .inr (.inr (some 95))]) (w' := (SH, (u2 (u2 (u2 dt106 92 (l49_1).toNat (-1)) 93 (l49_1).toNat 0) 94 (l49_1).toNat (-1)))) rfl ?_
              have hI316 : InvC (u2 (u2 (u2 (u2 dt106 92 (l49_1).toNat (-1)) 93 (l49_1).toNat 0) 94 (l49_1).toNat (-1)) 95 (l49_1).toNat (-1)) := InvC_u2 hI314 (lo := -2147483648) (hi := 2147483647) rfl rfl rfl (by decide) (by decide)
              have hF317 : Fr [88, 89, 90, 91, 92, 93, 94, 95, 96, 97, 98, 99, 100] dt (u2 (u2 (u2 (u2 dt106 92 (l49_1).toNat (-1)) 93 (l49_1).toNat 0) 94 (l49_1).toNat (-1)) 95 (l49_1).toNat (-1)) := Fr_u2 hF315 (by decide)
              refine go_smpq PM177 (L' := [some (.inr (.inr (some 79))), some (.inl l49_1)]) (st' := []) (w' := (SH, (u2 (u2 (u2 (u2 dt106 92 (l49_1).toNat (-1)) 93 (l49_1).toNat 0) 94 (l49_1).toNat (-1)) 95 (l49_1).toNat (-1)))) rfl rfl (s_iast (n := 3) rfl (by first | exact bndc i109 c120 (by decide) (by decide) | exact bndx i109 (by decide) (by decide) | exact ⟨by fail, by fail⟩) ⟨by decide, by decide⟩) ?_
              refine go_toq PM177 (k := 2) (pc' := 49) (L' := [some (.inr (.inr (some 79))), some (.inl (l49_1 + 1))]) (st' := []) (w' := (SH, (u2 (u2 (u2 (u2 dt106 92 (l49_1).toNat (-1)) 93 (l49_1).toNat 0) 94 (l49_1).toNat (-1)) 95 (l49_1).toNat (-1)))) rfl ?_
              exact GO.le (ih_loop110 (l49_1 + 1) (u2 (u2 (u2 (u2 dt106 92 (l49_1).toNat (-1)) 93 (l49_1).toNat 0) 94 (l49_1).toNat (-1)) 95 (l49_1).toNat (-1)) hI316 hF317 (by first | exact bndp i109 (by decide) (by decide) | exact bnde i109 c120 (by decide) (by decide) | fail) (by omega)) ⟨.inl rfl, .inl rfl, trivial⟩
        exact GO.le (loop110 _ 0 dt51 hI52 hF53 ⟨by decide, by decide⟩ (Nat.lt_succ_self _)) ⟨.inl rfl, .inl rfl, trivial⟩
      · skip
        refine go_toq PM177 (k := 4) (pc' := 13) (L' := [some (.inr (.inr (some 79))), some (.inl l2_1)]) (st' := [.inl 0, .inl l2_1, .inr (.inr (some 88))]) (w' := (SH, dt51)) rfl ?_
        have hI318 : InvC (u2 dt51 88 (l2_1).toNat 0) := InvC_u2 hI52 (lo := 0) (hi := 1) rfl rfl rfl (by decide) (by decide)
        have hF319 : Fr [88, 89, 90, 91, 92, 93, 94, 95, 96, 97, 98, 99, 100] dt (u2 dt51 88 (l2_1).toNat 0) := Fr_u2 hF53 (by decide)
        refine go_smpq PM177 (L' := [some (.inr (.inr (some 79))), some (.inl l2_1)]) (st' := []) (w' := (SH, (u2 dt51 88 (l2_1).toNat 0))) rfl rfl (s_zast (n := 4) rfl (by first | exact bndc i54 c65 (by decide) (by decide) | exact bndx i54 (by decide) (by decide) | exact ⟨by fail, by fail⟩) (by omega)) ?_
        refine go_toq PM177 (k := 4) (pc' := 20) (L' := [some (.inr (.inr (some 79))), some (.inl l2_1)]) (st' := [.inl (-1), .inl l2_1, .inr (.inr (some 91))]) (w' := (SH, (u2 dt51 88 (l2_1).toNat 0))) rfl ?_
        have hI320 : InvC (u2 (u2 dt51 88 (l2_1).toNat 0) 91 (l2_1).toNat (-1)) := InvC_u2 hI318 (lo := -2147483648) (hi := 2147483647) rfl rfl rfl (by decide) (by decide)
        have hF321 : Fr [88, 89, 90, 91, 92, 93, 94, 95, 96, 97, 98, 99, 100] dt (u2 (u2 dt51 88 (l2_1).toNat 0) 91 (l2_1).toNat (-1)) := Fr_u2 hF319 (by decide)
        refine go_smpq PM177 (L' := [some (.inr (.inr (some 79))), some (.inl l2_1)]) (st' := []) (w' := (SH, (u2 (u2 dt51 88 (l2_1).toNat 0) 91 (l2_1).toNat (-1)))) rfl rfl (s_iast (n := 4) rfl (by first | exact bndc i54 c65 (by decide) (by decide) | exact bndx i54 (by decide) (by decide) | exact ⟨by fail, by fail⟩) ⟨by decide, by decide⟩) ?_
        refine go_toq PM177 (k := 6) (pc' := 29) (L' := [some (.inr (.inr (some 79))), some (.inl l2_1)]) (st' := [.inl 0, .inl (2 * l2_1), .inr (.inr (some 89))]) (w' := (SH, (u2 (u2 dt51 88 (l2_1).toNat 0) 91 (l2_1).toNat (-1)))) rfl ?_
        have hI322 : InvC (u2 (u2 (u2 dt51 88 (l2_1).toNat 0) 91 (l2_1).toNat (-1)) 89 ((2 * l2_1).toNat) 0) := InvC_u2 hI320 (lo := 0) (hi := 1) rfl rfl rfl (by decide) (by decide)
        have hF323 : Fr [88, 89, 90, 91, 92, 93, 94, 95, 96, 97, 98, 99, 100] dt (u2 (u2 (u2 dt51 88 (l2_1).toNat 0) 91 (l2_1).toNat (-1)) 89 ((2 * l2_1).toNat) 0) := Fr_u2 hF321 (by decide)
        refine go_smpq PM177 (L' := [some (.inr (.inr (some 79))), some (.inl l2_1)]) (st' := []) (w' := (SH, (u2 (u2 (u2 dt51 88 (l2_1).toNat 0) 91 (l2_1).toNat (-1)) 89 ((2 * l2_1).toNat) 0))) rfl rfl (s_zast (n := 8) rfl ⟨by omega, by omega⟩ (by omega)) ?_
        refine go_toq PM177 (k := 8) (pc' := 40) (L' := [some (.inr (.inr (some 79))), some (.inl l2_1)]) (st' := [.inl 0, .inl ((2 * l2_1) + 1), .inr (.inr (some 89))]) (w' := (SH, (u2 (u2 (u2 dt51 88 (l2_1).toNat 0) 91 (l2_1).toNat (-1)) 89 ((2 * l2_1).toNat) 0))) rfl ?_
        have hI324 : InvC (u2 (u2 (u2 (u2 dt51 88 (l2_1).toNat 0) 91 (l2_1).toNat (-1)) 89 ((2 * l2_1).toNat) 0) 89 (((2 * l2_1) + 1).toNat) 0) := InvC_u2 hI322 (lo := 0) (hi := 1) rfl rfl rfl (by decide) (by decide)
        have hF325 : Fr [88, 89, 90, 91, 92, 93, 94, 95, 96, 97, 98, 99, 100] dt (u2 (u2 (u2 (u2 dt51 88 (l2_1).toNat 0) 91 (l2_1).toNat (-1)) 89 ((2 * l2_1).toNat) 0) 89 (((2 * l2_1) + 1).toNat) 0) := Fr_u2 hF323 (by decide)
        refine go_smpq PM177 (L' := [some (.inr (.inr (some 79))), some (.inl l2_1)]) (st' := []) (w' := (SH, (u2 (u2 (u2 (u2 dt51 88 (l2_1).toNat 0) 91 (l2_1).toNat (-1)) 89 ((2 * l2_1).toNat) 0) 89 (((2 * l2_1) + 1).toNat) 0))) rfl rfl (s_zast (n := 8) rfl ⟨by omega, by omega⟩ (by omega)) ?_
        refine go_toq PM177 (k := 2) (pc' := 2) (L' := [some (.inr (.inr (some 79))), some (.inl (l2_1 + 1))]) (st' := []) (w' := (SH, (u2 (u2 (u2 (u2 dt51 88 (l2_1).toNat 0) 91 (l2_1).toNat (-1)) 89 ((2 * l2_1).toNat) 0) 89 (((2 * l2_1) + 1).toNat) 0))) rfl ?_
        exact GO.le (ih_loop55 (l2_1 + 1) (u2 (u2 (u2 (u2 dt51 88 (l2_1).toNat 0) 91 (l2_1).toNat (-1)) 89 ((2 * l2_1).toNat) 0) 89 (((2 * l2_1) + 1).toNat) 0) hI324 hF325 (by first | exact bndp i54 (by decide) (by decide) | exact bnde i54 c65 (by decide) (by decide) | fail) (by omega)) ⟨.inl rfl, .inl rfl, trivial⟩
  exact GO.le (loop55 _ 0 dt hI hF ⟨by decide, by decide⟩ (Nat.lt_succ_self _)) ⟨.inl rfl, .inl rfl, trivial⟩
set_option maxRecDepth 20000 in
theorem sp_X6_canSee (L : Nat) (xs : Nat → Int32) (sio : Option Nat) (d : Nat) (dt : Nat → Nat → Int) (hI : InvC dt)  (p1 : Int) (h_p1 : 0 ≤ p1 ∧ p1 ≤ 3)  : GO (am_XX L xs sio) (d) 178 0 [some (.inr (.inr (some 79))), some (.inl p1)] [] (SH, dt) (fun r w2 => w2 = (SH, dt) ∧ ((r = some (.inl 1) ∧ True) ∨ (r = some (.inl 0) ∧ True))) := by
  refine go_toq PM178 (k := 3) (pc' := 5) (L' := [some (.inr (.inr (some 79))), some (.inl p1)]) (st' := [.inl p1, .inr (.inr (some 88))]) (w' := (SH, dt)) rfl ?_
  have r1 : 0 ≤ dt 88 (p1).toNat ∧ dt 88 (p1).toNat ≤ 1 := InvC_get hI 88 (p1).toNat rfl rfl
  refine go_smpq PM178 (L' := [some (.inr (.inr (some 79))), some (.inl p1)]) (st' := [.inl (dt 88 (p1).toNat)]) (w' := (SH, dt)) rfl rfl (s_zald (n := 4) (f := dt 88) rfl (by first | exact bndx h_p1 (by decide) (by decide) | exact ⟨by fail, by fail⟩)) ?_
  have j5 :  GO (am_XX L xs sio) (d) 178 23 [some (.inr (.inr (some 79))), none] [.inl 0] (SH, dt) (fun r w2 => w2 = (SH, dt) ∧ ((r = some (.inl 1) ∧ True) ∨ (r = some (.inl 0) ∧ True))) := by
    skip
    refine go_retq PM178 (k := 0) (r := some (.inl 0)) (w1 := (SH, dt)) rfl ?_
    exact ⟨rfl, (Or.inr ⟨rfl, trivial⟩)⟩
  refine go_ifq PM178 (k := 0) (p1 := 22) (p2 := 9) (L' := [some (.inr (.inr (some 79))), some (.inl p1)]) (st' := []) (w' := (SH, dt)) rfl (z_eq (a := dt 88 (p1).toNat) (by first | exact bnd r1 (by decide) (by decide) | exact ⟨by fail, by fail⟩)) (fun c6 => ?_) (fun c6 => ?_)
  · skip
    refine go_toq PM178 (k := 1) (pc' := 23) (L' := [some (.inr (.inr (some 79))), some (.inl p1)]) (st' := [.inl 0]) (w' := (SH, dt)) rfl ?_
    exact GO.le (j5 ) ⟨.inl rfl, .inr ⟨rfl, trivial⟩, trivial⟩
  · skip
    have qc6 : 1 ≤ dt 88 (p1).toNat := by omega
    replace c6 := hid c6
    refine go_toq PM178 (k := 3) (pc' := 14) (L' := [some (.inr (.inr (some 79))), some (.inl p1)]) (st' := [.inl p1, .inr (.inr (some 91))]) (w' := (SH, dt)) rfl ?_
    have r7 : (-2147483648) ≤ dt 91 (p1).toNat ∧ dt 91 (p1).toNat ≤ 2147483647 := InvC_get hI 91 (p1).toNat rfl rfl
    refine go_smpq PM178 (L' := [some (.inr (.inr (some 79))), some (.inl p1)]) (st' := [.inl (dt 91 (p1).toNat)]) (w' := (SH, dt)) rfl rfl (s_iald (n := 4) (f := dt 91) rfl (by first | exact bndx h_p1 (by decide) (by decide) | exact ⟨by fail, by fail⟩)) ?_
    refine go_ifq PM178 (k := 0) (p1 := 22) (p2 := 18) (L' := [some (.inr (.inr (some 79))), some (.inl p1)]) (st' := []) (w' := (SH, dt)) rfl (z_eq (a := dt 91 (p1).toNat) (by first | exact bnd r7 (by decide) (by decide) | exact ⟨by fail, by fail⟩)) (fun c8 => ?_) (fun c8 => ?_)
    · skip
      refine go_toq PM178 (k := 1) (pc' := 23) (L' := [some (.inr (.inr (some 79))), some (.inl p1)]) (st' := [.inl 0]) (w' := (SH, dt)) rfl ?_
      exact GO.le (j5 ) ⟨.inl rfl, .inr ⟨rfl, trivial⟩, trivial⟩
    · skip
      replace c8 := hid c8
      refine go_retq PM178 (k := 2) (r := some (.inl 1)) (w1 := (SH, dt)) rfl ?_
      exact ⟨rfl, (Or.inl ⟨rfl, trivial⟩)⟩
set_option maxRecDepth 20000 in
theorem sp_X6_takesForSeeing (L : Nat) (xs : Nat → Int32) (sio : Option Nat) (d : Nat) (dt : Nat → Nat → Int) (hI : InvC dt)  (p1 : Int) (h_p1 : 0 ≤ p1 ∧ p1 ≤ 3) (p2 : Int) (h_p2 : 0 ≤ p2 ∧ p2 ≤ 3)  : GO (am_XX L xs sio) (d + 1) 179 0 [some (.inr (.inr (some 79))), some (.inl p1), some (.inl p2)] [] (SH, dt) (fun r w2 => w2 = (SH, dt) ∧ ((r = some (.inl 1) ∧ True) ∨ (r = some (.inl 0) ∧ True))) := by
  have j10 :  GO (am_XX L xs sio) (d + 1) 179 60 [some (.inr (.inr (some 79))), none, none] [.inl 0] (SH, dt) (fun r w2 => w2 = (SH, dt) ∧ ((r = some (.inl 1) ∧ True) ∨ (r = some (.inl 0) ∧ True))) := by
    skip
    refine go_retq PM179 (k := 0) (r := some (.inl 0)) (w1 := (SH, dt)) rfl ?_
    exact ⟨rfl, (Or.inr ⟨rfl, trivial⟩)⟩
  have j11 :  GO (am_XX L xs sio) (d + 1) 179 60 [some (.inr (.inr (some 79))), none, none] [.inl 1] (SH, dt) (fun r w2 => w2 = (SH, dt) ∧ ((r = some (.inl 1) ∧ True) ∨ (r = some (.inl 0) ∧ True))) := by
    skip
    refine go_retq PM179 (k := 0) (r := some (.inl 1)) (w1 := (SH, dt)) rfl ?_
    exact ⟨rfl, (Or.inl ⟨rfl, trivial⟩)⟩
  refine go_ifq PM179 (k := 2) (p1 := 59) (p2 := 5) (L' := [some (.inr (.inr (some 79))), some (.inl p1), some (.inl p2)]) (st' := []) (w' := (SH, dt)) rfl (c_eq (a := p1) (b := p2) (by first | exact bnd h_p1 (by decide) (by decide) | exact ⟨by fail, by fail⟩) (by first | exact bnd h_p2 (by decide) (by decide) | exact ⟨by fail, by fail⟩)) (fun c12 => ?_) (fun c12 => ?_)
  · skip
    refine go_toq PM179 (k := 1) (pc' := 60) (L' := [some (.inr (.inr (some 79))), some (.inl p1), some (.inl p2)]) (st' := [.inl 0]) (w' := (SH, dt)) rfl ?_
    exact GO.le (j10 ) ⟨.inl rfl, .inr ⟨rfl, trivial⟩, .inr ⟨rfl, trivial⟩, trivial⟩
  · skip
    replace c12 := hid c12
    refine go_toq PM179 (k := 2) (pc' := 7) (L' := [some (.inr (.inr (some 79))), some (.inl p1), some (.inl p2)]) (st' := [.inl p1, .inr (.inr (some 79))]) (w' := (SH, dt)) rfl ?_
    refine go_callq PM179 PM178 (Q' := _) rfl rfl rfl rfl (sp_X6_canSee L xs sio (d + 0) dt hI  p1 (by first | exact h_p1 | exact bnd h_p1 (by decide) (by decide) | exact ⟨by fail, by fail⟩) ) ?_
    rintro _ _ ⟨rfl, h13⟩
    refine ⟨rfl, ?_⟩
    rcases h13 with ⟨rfl, h13⟩ | ⟨rfl, h13⟩
    · skip
      refine go_toq PM179 (k := 4) (pc' := 18) (L' := [some (.inr (.inr (some 79))), some (.inl p1), some (.inl p2)]) (st' := [.inl p2, .inr (.inr (some 88))]) (w' := (SH, dt)) rfl ?_
      have r14 : 0 ≤ dt 88 (p2).toNat ∧ dt 88 (p2).toNat ≤ 1 := InvC_get hI 88 (p2).toNat rfl rfl
      refine go_smpq PM179 (L' := [some (.inr (.inr (some 79))), some (.inl p1), some (.inl p2)]) (st' := [.inl (dt 88 (p2).toNat)]) (w' := (SH, dt)) rfl rfl (s_zald (n := 4) (f := dt 88) rfl (by first | exact bndx h_p2 (by decide) (by decide) | exact ⟨by fail, by fail⟩)) ?_
      refine go_ifq PM179 (k := 0) (p1 := 59) (p2 := 22) (L' := [some (.inr (.inr (some 79))), some (.inl p1), some (.inl p2)]) (st' := []) (w' := (SH, dt)) rfl (z_eq (a := dt 88 (p2).toNat) (by first | exact bnd r14 (by decide) (by decide) | exact ⟨by fail, by fail⟩)) (fun c15 => ?_) (fun c15 => ?_)
      · skip
        refine go_toq PM179 (k := 1) (pc' := 60) (L' := [some (.inr (.inr (some 79))), some (.inl p1), some (.inl p2)]) (st' := [.inl 0]) (w' := (SH, dt)) rfl ?_
        exact GO.le (j10 ) ⟨.inl rfl, .inr ⟨rfl, trivial⟩, .inr ⟨rfl, trivial⟩, trivial⟩
      · skip
        have qc15 : 1 ≤ dt 88 (p2).toNat := by omega
        replace c15 := hid c15
        refine go_toq PM179 (k := 3) (pc' := 27) (L' := [some (.inr (.inr (some 79))), some (.inl p1), some (.inl p2)]) (st' := [.inl p2, .inr (.inr (some 91))]) (w' := (SH, dt)) rfl ?_
        have r16 : (-2147483648) ≤ dt 91 (p2).toNat ∧ dt 91 (p2).toNat ≤ 2147483647 := InvC_get hI 91 (p2).toNat rfl rfl
        refine go_smpq PM179 (L' := [some (.inr (.inr (some 79))), some (.inl p1), some (.inl p2)]) (st' := [.inl (dt 91 (p2).toNat)]) (w' := (SH, dt)) rfl rfl (s_iald (n := 4) (f := dt 91) rfl (by first | exact bndx h_p2 (by decide) (by decide) | exact ⟨by fail, by fail⟩)) ?_
        refine go_ifq PM179 (k := 1) (p1 := 55) (p2 := 32) (L' := [some (.inr (.inr (some 79))), some (.inl p1), some (.inl p2)]) (st' := []) (w' := (SH, dt)) rfl (c_eq (a := dt 91 (p2).toNat) (b := (-1)) (by first | exact bnd r16 (by decide) (by decide) | exact ⟨by fail, by fail⟩) ⟨by decide, by decide⟩) (fun c17 => ?_) (fun c17 => ?_)
        · skip
          refine go_toq PM179 (k := 2) (pc' := 60) (L' := [some (.inr (.inr (some 79))), some (.inl p1), some (.inl p2)]) (st' := [.inl 1]) (w' := (SH, dt)) rfl ?_
          exact GO.le (j11 ) ⟨.inl rfl, .inr ⟨rfl, trivial⟩, .inr ⟨rfl, trivial⟩, trivial⟩
        · skip
          replace c17 := hid c17
          refine go_toq PM179 (k := 3) (pc' := 37) (L' := [some (.inr (.inr (some 79))), some (.inl p1), some (.inl p2)]) (st' := [.inl p2, .inr (.inr (some 91))]) (w' := (SH, dt)) rfl ?_
          refine go_smpq PM179 (L' := [some (.inr (.inr (some 79))), some (.inl p1), some (.inl p2)]) (st' := [.inl (dt 91 (p2).toNat)]) (w' := (SH, dt)) rfl rfl (s_iald (n := 4) (f := dt 91) rfl (by first | exact bndx h_p2 (by decide) (by decide) | exact ⟨by fail, by fail⟩)) ?_
          refine go_ifq PM179 (k := 1) (p1 := 59) (p2 := 42) (L' := [some (.inr (.inr (some 79))), some (.inl p1), some (.inl p2)]) (st' := []) (w' := (SH, dt)) rfl (c_ne (a := dt 91 (p2).toNat) (b := 1) (by first | exact bnd r16 (by decide) (by decide) | exact ⟨by fail, by fail⟩) ⟨by decide, by decide⟩) (fun c18 => ?_) (fun c18 => ?_)
          · skip
            replace c18 := hid c18
            refine go_toq PM179 (k := 1) (pc' := 60) (L' := [some (.inr (.inr (some 79))), some (.inl p1), some (.inl p2)]) (st' := [.inl 0]) (w' := (SH, dt)) rfl ?_
            exact GO.le (j10 ) ⟨.inl rfl, .inr ⟨rfl, trivial⟩, .inr ⟨rfl, trivial⟩, trivial⟩
          · skip
            refine go_toq PM179 (k := 7) (pc' := 51) (L' := [some (.inr (.inr (some 79))), some (.inl p1), some (.inl p2)]) (st' := [.inl ((2 * p1) + 1), .inr (.inr (some 89))]) (w' := (SH, dt)) rfl ?_
            have r19 : 0 ≤ dt 89 (((2 * p1) + 1).toNat) ∧ dt 89 (((2 * p1) + 1).toNat) ≤ 1 := InvC_get hI 89 (((2 * p1) + 1).toNat) rfl rfl
            refine go_smpq PM179 (L' := [some (.inr (.inr (some 79))), some (.inl p1), some (.inl p2)]) (st' := [.inl (dt 89 (((2 * p1) + 1).toNat))]) (w' := (SH, dt)) rfl rfl (s_zald (n := 8) (f := dt 89) rfl ⟨by omega, by omega⟩) ?_
            refine go_ifq PM179 (k := 0) (p1 := 59) (p2 := 55) (L' := [some (.inr (.inr (some 79))), some (.inl p1), some (.inl p2)]) (st' := []) (w' := (SH, dt)) rfl (z_eq (a := dt 89 (((2 * p1) + 1).toNat)) (by first | exact bnd r19 (by decide) (by decide) | exact ⟨by fail, by fail⟩)) (fun c20 => ?_) (fun c20 => ?_)
            · skip
              refine go_toq PM179 (k := 1) (pc' := 60) (L' := [some (.inr (.inr (some 79))), some (.inl p1), some (.inl p2)]) (st' := [.inl 0]) (w' := (SH, dt)) rfl ?_
              exact GO.le (j10 ) ⟨.inl rfl, .inr ⟨rfl, trivial⟩, .inr ⟨rfl, trivial⟩, trivial⟩
            · skip
              have qc20 : 1 ≤ dt 89 (((2 * p1) + 1).toNat) := by omega
              replace c20 := hid c20
              refine go_toq PM179 (k := 2) (pc' := 60) (L' := [some (.inr (.inr (some 79))), some (.inl p1), some (.inl p2)]) (st' := [.inl 1]) (w' := (SH, dt)) rfl ?_
              exact GO.le (j11 ) ⟨.inl rfl, .inr ⟨rfl, trivial⟩, .inr ⟨rfl, trivial⟩, trivial⟩
    · skip
      refine go_toq PM179 (k := 2) (pc' := 60) (L' := [some (.inr (.inr (some 79))), some (.inl p1), some (.inl p2)]) (st' := [.inl 0]) (w' := (SH, dt)) rfl ?_
      exact GO.le (j10 ) ⟨.inl rfl, .inr ⟨rfl, trivial⟩, .inr ⟨rfl, trivial⟩, trivial⟩
set_option maxRecDepth 20000 in
theorem sp_X6_moves (L : Nat) (xs : Nat → Int32) (sio : Option Nat) (d : Nat) (dt : Nat → Nat → Int) (hI : InvC dt)  (p1 : Int) (h_p1 : 0 ≤ p1 ∧ p1 ≤ 3) (p2 : Int) (h_p2 : 0 ≤ p2 ∧ p2 ≤ 2) (p3 : Int) (h_p3 : 0 ≤ p3 ∧ p3 ≤ 3) (p4 : Int) (h_p4 : 0 ≤ p4 ∧ p4 ≤ 1)  : GO (am_XX L xs sio) (d + 2) 180 0 [some (.inr (.inr (some 79))), some (.inl p1), some (.inl p2), some (.inl p3), some (.inl p4), none, none, none] [] (SH, dt) (fun r w2 => ∃ dt2 : Nat → Nat → Int, w2 = (SH, dt2) ∧ InvC dt2 ∧ Fr [90, 92, 93, 94, 95, 96, 97, 98, 99] dt dt2 ∧ ((r = none ∧ True))) := by
  have hF : Fr [90, 92, 93, 94, 95, 96, 97, 98, 99] dt dt := Fr_refl
  refine go_toq PM180 (k := 3) (pc' := 5) (L' := [some (.inr (.inr (some 79))), some (.inl p1), some (.inl p2), some (.inl p3), some (.inl p4), none, none, none]) (st' := [.inl p1, .inr (.inr (some 88))]) (w' := (SH, dt)) rfl ?_
  have r1 : 0 ≤ dt 88 (p1).toNat ∧ dt 88 (p1).toNat ≤ 1 := InvC_get hI 88 (p1).toNat rfl rfl
  refine go_smpq PM180 (L' := [some (.inr (.inr (some 79))), some (.inl p1), some (.inl p2), some (.inl p3), some (.inl p4), none, none, none]) (st' := [.inl (dt 88 (p1).toNat)]) (w' := (SH, dt)) rfl rfl (s_zald (n := 4) (f := dt 88) rfl (by first | exact bndx h_p1 (by decide) (by decide) | exact ⟨by fail, by fail⟩)) ?_
  refine go_ifq PM180 (k := 0) (p1 := 29) (p2 := 9) (L' := [some (.inr (.inr (some 79))), some (.inl p1), some (.inl p2), some (.inl p3), some (.inl p4), none, none, none]) (st' := []) (w' := (SH, dt)) rfl (z_eq (a := dt 88 (p1).toNat) (by first | exact bnd r1 (by decide) (by decide) | exact ⟨by fail, by fail⟩)) (fun c2 => ?_) (fun c2 => ?_)
  · skip
    refine go_retq PM180 (k := 0) (r := none) (w1 := (SH, dt)) rfl ?_
    exact ⟨dt, rfl, hI, hF, ⟨rfl, trivial⟩⟩
  · skip
    have qc2 : 1 ≤ dt 88 (p1).toNat := by omega
    replace c2 := hid c2
    refine go_toq PM180 (k := 4) (pc' := 16) (L' := [some (.inr (.inr (some 79))), some (.inl p1), some (.inl p2), some (.inl p3), some (.inl p4), none, none, none]) (st' := [.inl p2, .inr (.inr (some 92)), .inl p4]) (w' := (SH, dt)) rfl ?_
    have r3 : (-2147483648) ≤ dt 92 (p2).toNat ∧ dt 92 (p2).toNat ≤ 2147483647 := InvC_get hI 92 (p2).toNat rfl rfl
    refine go_smpq PM180 (L' := [some (.inr (.inr (some 79))), some (.inl p1), some (.inl p2), some (.inl p3), some (.inl p4), none, none, none]) (st' := [.inl (dt 92 (p2).toNat), .inl p4]) (w' := (SH, dt)) rfl rfl (s_iald (n := 3) (f := dt 92) rfl (by first | exact bndx h_p2 (by decide) (by decide) | exact ⟨by fail, by fail⟩)) ?_
    refine go_ifq PM180 (k := 1) (p1 := 25) (p2 := 21) (L' := [some (.inr (.inr (some 79))), some (.inl p1), some (.inl p2), some (.inl p3), some (.inl p4), none, none, none]) (st' := [.inl p4]) (w' := (SH, dt)) rfl (c_ne (a := dt 92 (p2).toNat) (b := (-1)) (by first | exact bnd r3 (by decide) (by decide) | exact ⟨by fail, by fail⟩) ⟨by decide, by decide⟩) (fun c5 => ?_) (fun c5 => ?_)
    · skip
      replace c5 := hid c5
      refine go_ifq PM180 (k := 1) (p1 := 30) (p2 := 29) (L' := [some (.inr (.inr (some 79))), some (.inl p1), some (.inl p2), some (.inl p3), some (.inl p4), none, none, none]) (st' := []) (w' := (SH, dt)) rfl (c_eq (a := p4) (b := 0) (by first | exact bnd h_p4 (by decide) (by decide) | exact ⟨by fail, by fail⟩) ⟨by decide, by decide⟩) (fun c6 => ?_) (fun c6 => ?_)
      · skip
        refine go_toq PM180 (k := 6) (pc' := 40) (L' := [some (.inr (.inr (some 79))), some (.inl p1), some (.inl p2), some (.inl p3), some (.inl p4), none, none, none]) (st' := [.inl p2, .inr (.inr (some 92)), .inl p2, .inr (.inr (some 94))]) (w' := (SH, dt)) rfl ?_
        refine go_smpq PM180 (L' := [some (.inr (.inr (some 79))), some (.inl p1), some (.inl p2), some (.inl p3), some (.inl p4), none, none, none]) (st' := [.inl (dt 92 (p2).toNat), .inl p2, .inr (.inr (some 94))]) (w' := (SH, dt)) rfl rfl (s_iald (n := 3) (f := dt 92) rfl (by first | exact bndx h_p2 (by decide) (by decide) | exact ⟨by fail, by fail⟩)) ?_
        have hI7 : InvC (u2 dt 94 (p2).toNat (dt 92 (p2).toNat)) := InvC_u2 hI (lo := -2147483648) (hi := 2147483647) rfl rfl rfl (by first | exact bnd1 r3 (by decide) | fail) (by first | exact bnd2 r3 (by decide) | fail)
        have hF8 : Fr [90, 92, 93, 94, 95, 96, 97, 98, 99] dt (u2 dt 94 (p2).toNat (dt 92 (p2).toNat)) := Fr_u2 hF (by decide)
        refine go_smpq PM180 (L' := [some (.inr (.inr (some 79))), some (.inl p1), some (.inl p2), some (.inl p3), some (.inl p4), none, none, none]) (st' := []) (w' := (SH, (u2 dt 94 (p2).toNat (dt 92 (p2).toNat)))) rfl rfl (s_iast (n := 3) rfl (by first | exact bndx h_p2 (by decide) (by decide) | exact ⟨by fail, by fail⟩) (by first | exact bnd r3 (by decide) (by decide) | exact ⟨by fail, by fail⟩)) ?_
        refine go_toq PM180 (k := 4) (pc' := 48) (L' := [some (.inr (.inr (some 79))), some (.inl p1), some (.inl p2), some (.inl p3), some (.inl p4), none, none, none]) (st' := [.inl p3, .inl p2, .inr (.inr (some 92))]) (w' := (SH, (u2 dt 94 (p2).toNat (dt 92 (p2).toNat)))) rfl ?_
        have hI9 : InvC (u2 (u2 dt 94 (p2).toNat (dt 92 (p2).toNat)) 92 (p2).toNat p3) := InvC_u2 hI7 (lo := -2147483648) (hi := 2147483647) rfl rfl rfl (by first | exact bnd1 h_p3 (by decide) | fail) (by first | exact bnd2 h_p3 (by decide) | fail)
        have hF10 : Fr [90, 92, 93, 94, 95, 96, 97, 98, 99] dt (u2 (u2 dt 94 (p2).toNat (dt 92 (p2).toNat)) 92 (p2).toNat p3) := Fr_u2 hF8 (by decide)
        refine go_smpq PM180 (L' := [some (.inr (.inr (some 79))), some (.inl p1), some (.inl p2), some (.inl p3), some (.inl p4), none, none, none]) (st' := []) (w' := (SH, (u2 (u2 dt 94 (p2).toNat (dt 92 (p2).toNat)) 92 (p2).toNat p3))) rfl rfl (s_iast (n := 3) rfl (by first | exact bndx h_p2 (by decide) (by decide) | exact ⟨by fail, by fail⟩) (by first | exact bnd h_p3 (by decide) (by decide) | exact ⟨by fail, by fail⟩)) ?_
        refine go_toq PM180 (k := 4) (pc' := 55) (L' := [some (.inr (.inr (some 79))), some (.inl p1), some (.inl p2), some (.inl p3), some (.inl p4), none, none, none]) (st' := [.inl p2, .inr (.inr (some 93)), .inl p2, .inr (.inr (some 93))]) (w' := (SH, (u2 (u2 dt 94 (p2).toNat (dt 92 (p2).toNat)) 92 (p2).toNat p3))) rfl ?_
        have r11 : (-2147483648) ≤ dt 93 (p2).toNat ∧ dt 93 (p2).toNat ≤ 2147483647 := InvC_get hI 93 (p2).toNat rfl rfl
        refine go_smpq PM180 (L' := [some (.inr (.inr (some 79))), some (.inl p1), some (.inl p2), some (.inl p3), some (.inl p4), none, none, none]) (st' := [.inl (dt 93 (p2).toNat), .inl p2, .inr (.inr (some 93))]) (w' := (SH, (u2 (u2 dt 94 (p2).toNat (dt 92 (p2).toNat)) 92 (p2).toNat p3))) rfl rfl (s_iald (n := 3) (f := (u2 (u2 dt 94 (p2).toNat (dt 92 (p2).toNat)) 92 (p2).toNat p3) 93) rfl (by first | exact bndx h_p2 (by decide) (by decide) | exact ⟨by fail, by fail⟩)) ?_
        refine go_toq PM180 (k := 2) (pc' := 58) (L' := [some (.inr (.inr (some 79))), some (.inl p1), some (.inl p2), some (.inl p3), some (.inl p4), none, none, none]) (st' := [.inl ((dt 93 (p2).toNat) + 1), .inl p2, .inr (.inr (some 93))]) (w' := (SH, (u2 (u2 dt 94 (p2).toNat (dt 92 (p2).toNat)) 92 (p2).toNat p3))) rfl ?_
        have r12 := wr_RR ((dt 93 (p2).toNat) + 1)
        have hI13 : InvC (u2 (u2 (u2 dt 94 (p2).toNat (dt 92 (p2).toNat)) 92 (p2).toNat p3) 93 (p2).toNat (wr ((dt 93 (p2).toNat) + 1))) := InvC_u2 hI9 (lo := -2147483648) (hi := 2147483647) rfl rfl rfl (by omega) (by omega)
        have hF14 : Fr [90, 92, 93, 94, 95, 96, 97, 98, 99] dt (u2 (u2 (u2 dt 94 (p2).toNat (dt 92 (p2).toNat)) 92 (p2).toNat p3) 93 (p2).toNat (wr ((dt 93 (p2).toNat) + 1))) := Fr_u2 hF10 (by decide)
        refine go_smpq PM180 (L' := [some (.inr (.inr (some 79))), some (.inl p1), some (.inl p2), some (.inl p3), some (.inl p4), none, none, none]) (st' := []) (w' := (SH, (u2 (u2 (u2 dt 94 (p2).toNat (dt 92 (p2).toNat)) 92 (p2).toNat p3) 93 (p2).toNat (wr ((dt 93 (p2).toNat) + 1))))) rfl rfl (s_iastw (n := 3) rfl (by first | exact bndx h_p2 (by decide) (by decide) | exact ⟨by fail, by fail⟩)) ?_
        refine go_toq PM180 (k := 3) (pc' := 64) (L' := [some (.inr (.inr (some 79))), some (.inl p1), some (.inl p2), some (.inl p3), some (.inl p4), none, none, none]) (st' := [.inl p2, .inr (.inr (some 93))]) (w' := (SH, (u2 (u2 (u2 dt 94 (p2).toNat (dt 92 (p2).toNat)) 92 (p2).toNat p3) 93 (p2).toNat (wr ((dt 93 (p2).toNat) + 1))))) rfl ?_
        have e15 : (u2 (u2 (u2 dt 94 (p2).toNat (dt 92 (p2).toNat)) 92 (p2).toNat p3) 93 (p2).toNat (wr ((dt 93 (p2).toNat) + 1))) 93 (p2).toNat = wr ((dt 93 (p2).toNat) + 1) := u2_eq
        refine go_smpq PM180 (L' := [some (.inr (.inr (some 79))), some (.inl p1), some (.inl p2), some (.inl p3), some (.inl p4), none, none, none]) (st' := [.inl ((u2 (u2 (u2 dt 94 (p2).toNat (dt 92 (p2).toNat)) 92 (p2).toNat p3) 93 (p2).toNat (wr ((dt 93 (p2).toNat) + 1))) 93 (p2).toNat)]) (w' := (SH, (u2 (u2 (u2 dt 94 (p2).toNat (dt 92 (p2).toNat)) 92 (p2).toNat p3) 93 (p2).toNat (wr ((dt 93 (p2).toNat) + 1))))) rfl rfl (s_iald (n := 3) (f := (u2 (u2 (u2 dt 94 (p2).toNat (dt 92 (p2).toNat)) 92 (p2).toNat p3) 93 (p2).toNat (wr ((dt 93 (p2).toNat) + 1))) 93) rfl (by first | exact bndx h_p2 (by decide) (by decide) | exact ⟨by fail, by fail⟩)) ?_
        have j19 : ∀ (j19_d : Nat → Nat → Int) (j19_hI : InvC j19_d) (j19_hF : Fr [90, 92, 93, 94, 95, 96, 97, 98, 99] dt j19_d), GO (am_XX L xs sio) (d + 2) 180 76 [some (.inr (.inr (some 79))), some (.inl p1), some (.inl p2), some (.inl p3), none, none, none, none] [] (SH, j19_d) (fun r w2 => ∃ dt2 : Nat → Nat → Int, w2 = (SH, dt2) ∧ InvC dt2 ∧ Fr [90, 92, 93, 94, 95, 96, 97, 98, 99] dt dt2 ∧ ((r = none ∧ True))) := by
          intro j19_d j19_hI j19_hF
          refine go_toq PM180 (k := 8) (pc' := 86) (L' := [some (.inr (.inr (some 79))), some (.inl p1), some (.inl p2), some (.inl p3), none, none, none, none]) (st' := [.inl p3, .inl ((3 * p1) + p2), .inr (.inr (some 98))]) (w' := (SH, j19_d)) rfl ?_
          have hI20 : InvC (u2 j19_d 98 (((3 * p1) + p2).toNat) p3) := InvC_u2 j19_hI (lo := -2147483648) (hi := 2147483647) rfl rfl rfl (by first | exact bnd1 h_p3 (by decide) | fail) (by first | exact bnd2 h_p3 (by decide) | fail)
          have hF21 : Fr [90, 92, 93, 94, 95, 96, 97, 98, 99] dt (u2 j19_d 98 (((3 * p1) + p2).toNat) p3) := Fr_u2 j19_hF (by decide)
          refine go_smpq PM180 (L' := [some (.inr (.inr (some 79))), some (.inl p1), some (.inl p2), some (.inl p3), none, none, none, none]) (st' := []) (w' := (SH, (u2 j19_d 98 (((3 * p1) + p2).toNat) p3))) rfl rfl (s_iast (n := 12) rfl ⟨by omega, by omega⟩ (by first | exact bnd h_p3 (by decide) (by decide) | exact ⟨by fail, by fail⟩)) ?_
          refine go_toq PM180 (k := 2) (pc' := 90) (L' := [some (.inr (.inr (some 79))), some (.inl p1), some (.inl p2), some (.inl p3), none, some (.inl 0), none, none]) (st' := []) (w' := (SH, (u2 j19_d 98 (((3 * p1) + p2).toNat) p3))) rfl ?_
          have loop396 : ∀ (k_ : Nat) (l90_5 : Int) (dt392 : Nat → Nat → Int) (hI393 : InvC dt392) (hF394 : Fr [90, 92, 93, 94, 95, 96, 97, 98, 99] dt dt392) (i395 : 0 ≤ l90_5 ∧ l90_5 ≤ 4), (5 - l90_5).toNat < k_ → GO (am_XX L xs sio) (d + 2) 180 90 [some (.inr (.inr (some 79))), some (.inl p1), some (.inl p2), some (.inl p3), none, some (.inl l90_5), none, none] [] (SH, dt392) (fun r w2 => ∃ dt2 : Nat → Nat → Int, w2 = (SH, dt2) ∧ InvC dt2 ∧ Fr [90, 92, 93, 94, 95, 96, 97, 98, 99] dt dt2 ∧ ((r = none ∧ True))) := by
            intro k_
            induction k_ with
            | zero => intro l90_5 dt392 hI393 hF394 i395 hm; exact absurd hm (Nat.not_lt_zero _)
            | succ k_ ih_loop396 =>
              intro l90_5 dt392 hI393 hF394 i395 hm
              refine go_ifq PM180 (k := 2) (p1 := 226) (p2 := 96) (L' := [some (.inr (.inr (some 79))), some (.inl p1), some (.inl p2), some (.inl p3), none, some (.inl l90_5), none, none]) (st' := []) (w' := (SH, dt392)) rfl (c_ge (a := l90_5) (b := 4) (by first | exact bnd i395 (by decide) (by decide) | exact ⟨by fail, by fail⟩) ⟨by decide, by decide⟩) (fun c470 => ?_) (fun c470 => ?_)
              · skip
                refine go_retq PM180 (k := 0) (r := none) (w1 := (SH, dt392)) rfl ?_
                exact ⟨dt392, rfl, hI393, hF394, ⟨rfl, trivial⟩⟩
              · skip
                have j473 :  GO (am_XX L xs sio) (d + 2) 180 116 [some (.inr (.inr (some 79))), some (.inl p1), some (.inl p2), some (.inl p3), none, some (.inl l90_5), none, none] [.inl 1] (SH, dt392) (fun r w2 => ∃ dt2 : Nat → Nat → Int, w2 = (SH, dt2) ∧ InvC dt2 ∧ Fr [90, 92, 93, 94, 95, 96, 97, 98, 99] dt dt2 ∧ ((r = none ∧ True))) := by
                  skip
                  refine go_toq PM180 (k := 9) (pc' := 130) (L' := [some (.inr (.inr (some 79))), some (.inl p1), some (.inl p2), some (.inl p3), none, some (.inl l90_5), some (.inl 1), none]) (st' := [.inl 1, .inl ((3 * l90_5) + p2), .inr (.inr (some 90))]) (w' := (SH, dt392)) rfl ?_
                  have hI474 : InvC (u2 dt392 90 (((3 * l90_5) + p2).toNat) 1) := InvC_u2 hI393 (lo := 0) (hi := 1) rfl rfl rfl (by decide) (by decide)
                  have hF475 : Fr [90, 92, 93, 94, 95, 96, 97, 98, 99] dt (u2 dt392 90 (((3 * l90_5) + p2).toNat) 1) := Fr_u2 hF394 (by decide)
                  refine go_smpq PM180 (L' := [some (.inr (.inr (some 79))), some (.inl p1), some (.inl p2), some (.inl p3), none, some (.inl l90_5), some (.inl 1), none]) (st' := []) (w' := (SH, (u2 dt392 90 (((3 * l90_5) + p2).toNat) 1))) rfl rfl (s_zast (n := 12) rfl ⟨by omega, by omega⟩ (by omega)) ?_
                  refine go_toq PM180 (k := 10) (pc' := 150) (L' := [some (.inr (.inr (some 79))), some (.inl p1), some (.inl p2), some (.inl p3), none, some (.inl l90_5), some (.inl 1), none]) (st' := [.inl p3, .inl ((3 * l90_5) + p2), .inr (.inr (some 96))]) (w' := (SH, (u2 dt392 90 (((3 * l90_5) + p2).toNat) 1))) rfl ?_
                  have hI541 : InvC (u2 (u2 dt392 90 (((3 * l90_5) + p2).toNat) 1) 96 (((3 * l90_5) + p2).toNat) p3) := InvC_u2 hI474 (lo := -2147483648) (hi := 2147483647) rfl rfl rfl (by first | exact bnd1 h_p3 (by decide) | fail) (by first | exact bnd2 h_p3 (by decide) | fail)
                  have hF542 : Fr [90, 92, 93, 94, 95, 96, 97, 98, 99] dt (u2 (u2 dt392 90 (((3 * l90_5) + p2).toNat) 1) 96 (((3 * l90_5) + p2).toNat) p3) := Fr_u2 hF475 (by decide)
                  refine go_smpq PM180 (L' := [some (.inr (.inr (some 79))), some (.inl p1), some (.inl p2), some (.inl p3), none, some (.inl l90_5), some (.inl 1), none]) (st' := []) (w' := (SH, (u2 (u2 dt392 90 (((3 * l90_5) + p2).toNat) 1) 96 (((3 * l90_5) + p2).toNat) p3))) rfl rfl (s_iast (n := 12) rfl ⟨by omega, by omega⟩ (by first | exact bnd h_p3 (by decide) (by decide) | exact ⟨by fail, by fail⟩)) ?_
                  refine go_toq PM180 (k := 8) (pc' := 162) (L' := [some (.inr (.inr (some 79))), some (.inl p1), some (.inl p2), some (.inl p3), none, some (.inl l90_5), some (.inl 1), none]) (st' := [.inl p3, .inl ((3 * l90_5) + p2), .inr (.inr (some 97))]) (w' := (SH, (u2 (u2 dt392 90 (((3 * l90_5) + p2).toNat) 1) 96 (((3 * l90_5) + p2).toNat) p3))) rfl ?_
                  have hI543 : InvC (u2 (u2 (u2 dt392 90 (((3 * l90_5) + p2).toNat) 1) 96 (((3 * l90_5) + p2).toNat) p3) 97 (((3 * l90_5) + p2).toNat) p3) := InvC_u2 hI541 (lo := -2147483648) (hi := 2147483647) rfl rfl rfl (by first | exact bnd1 h_p3 (by decide) | fail) (by first | exact bnd2 h_p3 (by decide) | fail)
                  have hF544 : Fr [90, 92, 93, 94, 95, 96, 97, 98, 99] dt (u2 (u2 (u2 dt392 90 (((3 * l90_5) + p2).toNat) 1) 96 (((3 * l90_5) + p2).toNat) p3) 97 (((3 * l90_5) + p2).toNat) p3) := Fr_u2 hF542 (by decide)
                  refine go_smpq PM180 (L' := [some (.inr (.inr (some 79))), some (.inl p1), some (.inl p2), some (.inl p3), none, some (.inl l90_5), some (.inl 1), none]) (st' := []) (w' := (SH, (u2 (u2 (u2 dt392 90 (((3 * l90_5) + p2).toNat) 1) 96 (((3 * l90_5) + p2).toNat) p3) 97 (((3 * l90_5) + p2).toNat) p3))) rfl rfl (s_iast (n := 12) rfl ⟨by omega, by omega⟩ (by first | exact bnd h_p3 (by decide) (by decide) | exact ⟨by fail, by fail⟩)) ?_
                  refine go_toq PM180 (k := 2) (pc' := 166) (L' := [some (.inr (.inr (some 79))), some (.inl p1), some (.inl p2), some (.inl p3), none, some (.inl l90_5), some (.inl 1), some (.inl 0)]) (st' := []) (w' := (SH, (u2 (u2 (u2 dt392 90 (((3 * l90_5) + p2).toNat) 1) 96 (((3 * l90_5) + p2).toNat) p3) 97 (((3 * l90_5) + p2).toNat) p3))) rfl ?_
                  have loop599 : ∀ (k_ : Nat) (l166_7 : Int) (dt595 : Nat → Nat → Int) (hI596 : InvC dt595) (hF597 : Fr [90, 92, 93, 94, 95, 96, 97, 98, 99] dt dt595) (i598 : 0 ≤ l166_7 ∧ l166_7 ≤ 4), (5 - l166_7).toNat < k_ → GO (am_XX L xs sio) (d + 2) 180 166 [some (.inr (.inr (some 79))), some (.inl p1), some (.inl p2), some (.inl p3), none, some (.inl l90_5), none, some (.inl l166_7)] [] (SH, dt595) (fun r w2 => ∃ dt2 : Nat → Nat → Int, w2 = (SH, dt2) ∧ InvC dt2 ∧ Fr [90, 92, 93, 94, 95, 96, 97, 98, 99] dt dt2 ∧ ((r = none ∧ True))) := by
                    intro k_
                    induction k_ with
                    | zero => intro l166_7 dt595 hI596 hF597 i598 hm; exact absurd hm (Nat.not_lt_zero _)
                    | succ k_ ih_loop599 =>
                      intro l166_7 dt595 hI596 hF597 i598 hm
                      refine go_ifq PM180 (k := 2) (p1 := 220) (p2 := 172) (L' := [some (.inr (.inr (some 79))), some (.inl p1), some (.inl p2), some (.inl p3), none, some (.inl l90_5), none, some (.inl l166_7)]) (st' := []) (w' := (SH, dt595)) rfl (c_ge (a := l166_7) (b := 4) (by first | exact bnd i598 (by decide) (by decide) | exact ⟨by fail, by fail⟩) ⟨by decide, by decide⟩) (fun c609 => ?_) (fun c609 => ?_)
                      · skip
                        refine go_toq PM180 (k := 2) (pc' := 90) (L' := [some (.inr (.inr (some 79))), some (.inl p1), some (.inl p2), some (.inl p3), none, some (.inl (l90_5 + 1)), none, some (.inl l166_7)]) (st' := []) (w' := (SH, dt595)) rfl ?_
                        exact GO.le (ih_loop396 (l90_5 + 1) dt595 hI596 hF597 (by first | exact bndp i395 (by decide) (by decide) | exact bnde i395 c470 (by decide) (by decide) | fail) (by omega)) ⟨.inl rfl, .inl rfl, .inl rfl, .inl rfl, .inl rfl, .inl rfl, .inl rfl, .inr ⟨rfl, trivial⟩, trivial⟩
                      · skip
                        have j617 : ∀ (j617_d : Nat → Nat → Int) (j617_hI : InvC j617_d) (j617_hF : Fr [90, 92, 93, 94, 95, 96, 97, 98, 99] dt j617_d), GO (am_XX L xs sio) (d + 2) 180 214 [some (.inr (.inr (some 79))), some (.inl p1), some (.inl p2), some (.inl p3), none, some (.inl l90_5), none, some (.inl l166_7)] [] (SH, j617_d) (fun r w2 => ∃ dt2 : Nat → Nat → Int, w2 = (SH, dt2) ∧ InvC dt2 ∧ Fr [90, 92, 93, 94, 95, 96, 97, 98, 99] dt dt2 ∧ ((r = none ∧ True))) := by
                          intro j617_d j617_hI j617_hF
                          refine go_toq PM180 (k := 2) (pc' := 166) (L' := [some (.inr (.inr (some 79))), some (.inl p1), some (.inl p2), some (.inl p3), none, some (.inl l90_5), none, some (.inl (l166_7 + 1))]) (st' := []) (w' := (SH, j617_d)) rfl ?_
                          exact GO.le (ih_loop599 (l166_7 + 1) j617_d j617_hI j617_hF (by first | exact bndp i598 (by decide) (by decide) | exact bnde i598 c609 (by decide) (by decide) | fail) (by omega)) ⟨.inl rfl, .inl rfl, .inl rfl, .inl rfl, .inl rfl, .inl rfl, .inl rfl, .inl rfl, trivial⟩
                        refine go_ifq PM180 (k := 2) (p1 := 214) (p2 := 179) (L' := [some (.inr (.inr (some 79))), some (.inl p1), some (.inl p2), some (.inl p3), none, some (.inl l90_5), none, some (.inl l166_7)]) (st' := []) (w' := (SH, dt595)) rfl (c_eq (a := l166_7) (b := l90_5) (by first | exact bnd i598 (by decide) (by decide) | exact bndd i598 c609 (by decide) (by decide) | exact ⟨by fail, by fail⟩) (by first | exact bnd i395 (by decide) (by decide) | exact bndd i395 c470 (by decide) (by decide) | exact ⟨by fail, by fail⟩)) (fun c618 => ?_) (fun c618 => ?_)
                        · skip
                          exact GO.le (j617 dt595 hI596 hF597) ⟨.inl rfl, .inl rfl, .inl rfl, .inl rfl, .inl rfl, .inl rfl, .inl rfl, .inl rfl, trivial⟩
                        · skip
                          replace c618 := hid c618
                          refine go_ifq PM180 (k := 2) (p1 := 196) (p2 := 185) (L' := [some (.inr (.inr (some 79))), some (.inl p1), some (.inl p2), some (.inl p3), none, some (.inl l90_5), none, some (.inl l166_7)]) (st' := []) (w' := (SH, dt595)) rfl (c_eq (a := l166_7) (b := p1) (by first | exact bnd i598 (by decide) (by decide) | exact bndd i598 c609 (by decide) (by decide) | exact ⟨by fail, by fail⟩) (by first | exact bnd h_p1 (by decide) (by decide) | exact ⟨by fail, by fail⟩)) (fun c619 => ?_) (fun c619 => ?_)
                          · skip
                            refine go_toq PM180 (k := 12) (pc' := 213) (L' := [some (.inr (.inr (some 79))), some (.inl p1), some (.inl p2), some (.inl p3), none, some (.inl l90_5), none, some (.inl l166_7)]) (st' := [.inl p3, .inl (((12 * l90_5) + (3 * l166_7)) + p2), .inr (.inr (some 99))]) (w' := (SH, dt595)) rfl ?_
                            have hI620 : InvC (u2 dt595 99 ((((12 * l90_5) + (3 * l166_7)) + p2).toNat) p3) := InvC_u2 hI596 (lo := -2147483648) (hi := 2147483647) rfl rfl rfl (by first | exact bnd1 h_p3 (by decide) | fail) (by first | exact bnd2 h_p3 (by decide) | fail)
                            have hF621 : Fr [90, 92, 93, 94, 95, 96, 97, 98, 99] dt (u2 dt595 99 ((((12 * l90_5) + (3 * l166_7)) + p2).toNat) p3) := Fr_u2 hF597 (by decide)
                            refine go_smpq PM180 (L' := [some (.inr (.inr (some 79))), some (.inl p1), some (.inl p2), some (.inl p3), none, some (.inl l90_5), none, some (.inl l166_7)]) (st' := []) (w' := (SH, (u2 dt595 99 ((((12 * l90_5) + (3 * l166_7)) + p2).toNat) p3))) rfl rfl (s_iast (n := 48) rfl ⟨by omega, by omega⟩ (by first | exact bnd h_p3 (by decide) (by decide) | exact ⟨by fail, by fail⟩)) ?_
                            exact GO.le (j617 (u2 dt595 99 ((((12 * l90_5) + (3 * l166_7)) + p2).toNat) p3) hI620 hF621) ⟨.inl rfl, .inl rfl, .inl rfl, .inl rfl, .inl rfl, .inl rfl, .inl rfl, .inl rfl, trivial⟩
                          · skip
                            replace c619 := hid c619
                            refine go_toq PM180 (k := 3) (pc' := 190) (L' := [some (.inr (.inr (some 79))), some (.inl p1), some (.inl p2), some (.inl p3), none, some (.inl l90_5), none, some (.inl l166_7)]) (st' := [.inl l166_7, .inl l90_5, .inr (.inr (some 79))]) (w' := (SH, dt595)) rfl ?_
                            refine go_callq PM180 PM179 (Q' := _) rfl rfl rfl rfl (sp_X6_takesForSeeing L xs sio (d + 0) dt595 hI596  l90_5 (by first | exact bnd i395 (by decide) (by decide) | exact bndd i395 c470 (by decide) (by decide) | exact ⟨by fail, by fail⟩) l166_7 (by first | exact bnd i598 (by decide) (by decide) | exact bndd i598 c609 (by decide) (by decide) | exact ⟨by fail, by fail⟩) ) ?_
                            rintro _ _ ⟨rfl, h622⟩
                            refine ⟨rfl, ?_⟩
                            rcases h622 with ⟨rfl, h622⟩ | ⟨rfl, h622⟩
                            · skip
                              refine go_toq PM180 (k := 13) (pc' := 213) (L' := [some (.inr (.inr (some 79))), some (.inl p1), some (.inl p2), some (.inl p3), none, some (.inl l90_5), none, some (.inl l166_7)]) (st' := [.inl p3, .inl (((12 * l90_5) + (3 * l166_7)) + p2), .inr (.inr (some 99))]) (w' := (SH, dt595)) rfl ?_
                              have hI623 : InvC (u2 dt595 99 ((((12 * l90_5) + (3 * l166_7)) + p2).toNat) p3) := InvC_u2 hI596 (lo := -2147483648) (hi := 2147483647) rfl rfl rfl (by first | exact bnd1 h_p3 (by decide) | fail) (by first | exact bnd2 h_p3 (by decide) | fail)
                              have hF624 : Fr [90, 92, 93, 94, 95, 96, 97, 98, 99] dt (u2 dt595 99 ((((12 * l90_5) + (3 * l166_7)) + p2).toNat) p3) := Fr_u2 hF597 (by decide)
                              refine go_smpq PM180 (L' := [some (.inr (.inr (some 79))), some (.inl p1), some (.inl p2), some (.inl p3), none, some (.inl l90_5), none, some (.inl l166_7)]) (st' := []) (w' := (SH, (u2 dt595 99 ((((12 * l90_5) + (3 * l166_7)) + p2).toNat) p3))) rfl rfl (s_iast (n := 48) rfl ⟨by omega, by omega⟩ (by first | exact bnd h_p3 (by decide) (by decide) | exact ⟨by fail, by fail⟩)) ?_
                              exact GO.le (j617 (u2 dt595 99 ((((12 * l90_5) + (3 * l166_7)) + p2).toNat) p3) hI623 hF624) ⟨.inl rfl, .inl rfl, .inl rfl, .inl rfl, .inl rfl, .inl rfl, .inl rfl, .inl rfl, trivial⟩
                            · skip
                              refine go_toq PM180 (k := 1) (pc' := 214) (L' := [some (.inr (.inr (some 79))), some (.inl p1), some (.inl p2), some (.inl p3), none, some (.inl l90_5), none, some (.inl l166_7)]) (st' := []) (w' := (SH, dt595)) rfl ?_
                              exact GO.le (j617 dt595 hI596 hF597) ⟨.inl rfl, .inl rfl, .inl rfl, .inl rfl, .inl rfl, .inl rfl, .inl rfl, .inl rfl, trivial⟩
                  exact GO.le (loop599 _ 0 (u2 (u2 (u2 dt392 90 (((3 * l90_5) + p2).toNat) 1) 96 (((3 * l90_5) + p2).toNat) p3) 97 (((3 * l90_5) + p2).toNat) p3) hI543 hF544 ⟨by decide, by decide⟩ (Nat.lt_succ_self _)) ⟨.inl rfl, .inl rfl, .inl rfl, .inl rfl, .inl rfl, .inl rfl, .inr ⟨rfl, trivial⟩, .inl rfl, trivial⟩
                refine go_ifq PM180 (k := 2) (p1 := 111) (p2 := 102) (L' := [some (.inr (.inr (some 79))), some (.inl p1), some (.inl p2), some (.inl p3), none, some (.inl l90_5), none, none]) (st' := []) (w' := (SH, dt392)) rfl (c_eq (a := l90_5) (b := p1) (by first | exact bnd i395 (by decide) (by decide) | exact bndd i395 c470 (by decide) (by decide) | exact ⟨by fail, by fail⟩) (by first | exact bnd h_p1 (by decide) (by decide) | exact ⟨by fail, by fail⟩)) (fun c625 => ?_) (fun c625 => ?_)
                · skip
                  refine go_toq PM180 (k := 2) (pc' := 116) (L' := [some (.inr (.inr (some 79))), some (.inl p1), some (.inl p2), some (.inl p3), none, some (.inl l90_5), none, none]) (st' := [.inl 1]) (w' := (SH, dt392)) rfl ?_
                  exact GO.le (j473 ) ⟨.inl rfl, .inl rfl, .inl rfl, .inl rfl, .inl rfl, .inl rfl, .inl rfl, .inl rfl, trivial⟩
                · skip
                  replace c625 := hid c625
                  refine go_toq PM180 (k := 2) (pc' := 105) (L' := [some (.inr (.inr (some 79))), some (.inl p1), some (.inl p2), some (.inl p3), none, some (.inl l90_5), none, none]) (st' := [.inl l90_5, .inr (.inr (some 79))]) (w' := (SH, dt392)) rfl ?_
                  refine go_callq PM180 PM178 (Q' := _) rfl rfl rfl rfl (sp_X6_canSee L xs sio (d + 1) dt392 hI393  l90_5 (by first | exact bnd i395 (by decide) (by decide) | exact bndd i395 c470 (by decide) (by decide) | exact ⟨by fail, by fail⟩) ) ?_
                  rintro _ _ ⟨rfl, h626⟩
                  refine ⟨rfl, ?_⟩
                  rcases h626 with ⟨rfl, h626⟩ | ⟨rfl, h626⟩
                  · skip
                    refine go_toq PM180 (k := 3) (pc' := 116) (L' := [some (.inr (.inr (some 79))), some (.inl p1), some (.inl p2), some (.inl p3), none, some (.inl l90_5), none, none]) (st' := [.inl 1]) (w' := (SH, dt392)) rfl ?_
                    exact GO.le (j473 ) ⟨.inl rfl, .inl rfl, .inl rfl, .inl rfl, .inl rfl, .inl rfl, .inl rfl, .inl rfl, trivial⟩
                  · skip
                    refine go_toq PM180 (k := 11) (pc' := 130) (L' := [some (.inr (.inr (some 79))), some (.inl p1), some (.inl p2), some (.inl p3), none, some (.inl l90_5), some (.inl 0), none]) (st' := [.inl 0, .inl ((3 * l90_5) + p2), .inr (.inr (some 90))]) (w' := (SH, dt392)) rfl ?_
                    have hI627 : InvC (u2 dt392 90 (((3 * l90_5) + p2).toNat) 0) := InvC_u2 hI393 (lo := 0) (hi := 1) rfl rfl rfl (by decide) (by decide)
                    have hF628 : Fr [90, 92, 93, 94, 95, 96, 97, 98, 99] dt (u2 dt392 90 (((3 * l90_5) + p2).toNat) 0) := Fr_u2 hF394 (by decide)
                    refine go_smpq PM180 (L' := [some (.inr (.inr (some 79))), some (.inl p1), some (.inl p2), some (.inl p3), none, some (.inl l90_5), some (.inl 0), none]) (st' := []) (w' := (SH, (u2 dt392 90 (((3 * l90_5) + p2).toNat) 0))) rfl rfl (s_zast (n := 12) rfl ⟨by omega, by omega⟩ (by omega)) ?_
                    refine go_toq PM180 (k := 5) (pc' := 90) (L' := [some (.inr (.inr (some 79))), some (.inl p1), some (.inl p2), some (.inl p3), none, some (.inl (l90_5 + 1)), some (.inl 0), none]) (st' := []) (w' := (SH, (u2 dt392 90 (((3 * l90_5) + p2).toNat) 0))) rfl ?_
                    exact GO.le (ih_loop396 (l90_5 + 1) (u2 dt392 90 (((3 * l90_5) + p2).toNat) 0) hI627 hF628 (by first | exact bndp i395 (by decide) (by decide) | exact bnde i395 c470 (by decide) (by decide) | fail) (by omega)) ⟨.inl rfl, .inl rfl, .inl rfl, .inl rfl, .inl rfl, .inl rfl, .inr ⟨rfl, trivial⟩, .inl rfl, trivial⟩
          exact GO.le (loop396 _ 0 (u2 j19_d 98 (((3 * p1) + p2).toNat) p3) hI20 hF21 ⟨by decide, by decide⟩ (Nat.lt_succ_self _)) ⟨.inl rfl, .inl rfl, .inl rfl, .inl rfl, .inl rfl, .inl rfl, .inl rfl, .inl rfl, trivial⟩
        refine go_ifq PM180 (k := 1) (p1 := 76) (p2 := 69) (L' := [some (.inr (.inr (some 79))), some (.inl p1), some (.inl p2), some (.inl p3), some (.inl p4), none, none, none]) (st' := []) (w' := (SH, (u2 (u2 (u2 dt 94 (p2).toNat (dt 92 (p2).toNat)) 92 (p2).toNat p3) 93 (p2).toNat (wr ((dt 93 (p2).toNat) + 1))))) rfl (c_ne (a := (u2 (u2 (u2 dt 94 (p2).toNat (dt 92 (p2).toNat)) 92 (p2).toNat p3) 93 (p2).toNat (wr ((dt 93 (p2).toNat) + 1))) 93 (p2).toNat) (b := 1) ⟨by omega, by omega⟩ ⟨by decide, by decide⟩) (fun c629 => ?_) (fun c629 => ?_)
        · skip
          replace c629 := hid c629
          exact GO.le (j19 (u2 (u2 (u2 dt 94 (p2).toNat (dt 92 (p2).toNat)) 92 (p2).toNat p3) 93 (p2).toNat (wr ((dt 93 (p2).toNat) + 1))) hI13 hF14) ⟨.inl rfl, .inl rfl, .inl rfl, .inl rfl, .inr ⟨rfl, trivial⟩, .inl rfl, .inl rfl, .inl rfl, trivial⟩
        · skip
          refine go_toq PM180 (k := 4) (pc' := 75) (L' := [some (.inr (.inr (some 79))), some (.inl p1), some (.inl p2), some (.inl p3), some (.inl p4), none, none, none]) (st' := [.inl p3, .inl p2, .inr (.inr (some 95))]) (w' := (SH, (u2 (u2 (u2 dt 94 (p2).toNat (dt 92 (p2).toNat)) 92 (p2).toNat p3) 93 (p2).toNat (wr ((dt 93 (p2).toNat) + 1))))) rfl ?_
          have hI630 : InvC (u2 (u2 (u2 (u2 dt 94 (p2).toNat (dt 92 (p2).toNat)) 92 (p2).toNat p3) 93 (p2).toNat (wr ((dt 93 (p2).toNat) + 1))) 95 (p2).toNat p3) := InvC_u2 hI13 (lo := -2147483648) (hi := 2147483647) rfl rfl rfl (by first | exact bnd1 h_p3 (by decide) | fail) (by first | exact bnd2 h_p3 (by decide) | fail)
          have hF631 : Fr [90, 92, 93, 94, 95, 96, 97, 98, 99] dt (u2 (u2 (u2 (u2 dt 94 (p2).toNat (dt 92 (p2).toNat)) 92 (p2).toNat p3) 93 (p2).toNat (wr ((dt 93 (p2).toNat) + 1))) 95 (p2).toNat p3) := Fr_u2 hF14 (by decide)
          refine go_smpq PM180 (L' := [some (.inr (.inr (some 79))), some (.inl p1), some (.inl p2), some (.inl p3), some (.inl p4), none, none, none]) (st' := []) (w' := (SH, (u2 (u2 (u2 (u2 dt 94 (p2).toNat (dt 92 (p2).toNat)) 92 (p2).toNat p3) 93 (p2).toNat (wr ((dt 93 (p2).toNat) + 1))) 95 (p2).toNat p3))) rfl rfl (s_iast (n := 3) rfl (by first | exact bndx h_p2 (by decide) (by decide) | exact ⟨by fail, by fail⟩) (by first | exact bnd h_p3 (by decide) (by decide) | exact ⟨by fail, by fail⟩)) ?_
          exact GO.le (j19 (u2 (u2 (u2 (u2 dt 94 (p2).toNat (dt 92 (p2).toNat)) 92 (p2).toNat p3) 93 (p2).toNat (wr ((dt 93 (p2).toNat) + 1))) 95 (p2).toNat p3) hI630 hF631) ⟨.inl rfl, .inl rfl, .inl rfl, .inl rfl, .inr ⟨rfl, trivial⟩, .inl rfl, .inl rfl, .inl rfl, trivial⟩
      · skip
        have qc6 : 1 ≤ p4 := by omega
        replace c6 := hid c6
        refine go_retq PM180 (k := 0) (r := none) (w1 := (SH, dt)) rfl ?_
        exact ⟨dt, rfl, hI, hF, ⟨rfl, trivial⟩⟩
    · skip
      refine go_ifq PM180 (k := 2) (p1 := 30) (p2 := 29) (L' := [some (.inr (.inr (some 79))), some (.inl p1), some (.inl p2), some (.inl p3), some (.inl p4), none, none, none]) (st' := []) (w' := (SH, dt)) rfl (c_eq (a := p4) (b := 1) (by first | exact bnd h_p4 (by decide) (by decide) | exact ⟨by fail, by fail⟩) ⟨by decide, by decide⟩) (fun c632 => ?_) (fun c632 => ?_)
      · skip
        refine go_toq PM180 (k := 6) (pc' := 40) (L' := [some (.inr (.inr (some 79))), some (.inl p1), some (.inl p2), some (.inl p3), some (.inl p4), none, none, none]) (st' := [.inl p2, .inr (.inr (some 92)), .inl p2, .inr (.inr (some 94))]) (w' := (SH, dt)) rfl ?_
        refine go_smpq PM180 (L' := [some (.inr (.inr (some 79))), some (.inl p1), some (.inl p2), some (.inl p3), some (.inl p4), none, none, none]) (st' := [.inl (dt 92 (p2).toNat), .inl p2, .inr (.inr (some 94))]) (w' := (SH, dt)) rfl rfl (s_iald (n := 3) (f := dt 92) rfl (by first | exact bndx h_p2 (by decide) (by decide) | exact ⟨by fail, by fail⟩)) ?_
        have hI633 : InvC (u2 dt 94 (p2).toNat (dt 92 (p2).toNat)) := InvC_u2 hI (lo := -2147483648) (hi := 2147483647) rfl rfl rfl (by first | exact bnd1 r3 (by decide) | fail) (by first | exact bnd2 r3 (by decide) | fail)
        have hF634 : Fr [90, 92, 93, 94, 95, 96, 97, 98, 99] dt (u2 dt 94 (p2).toNat (dt 92 (p2).toNat)) := Fr_u2 hF (by decide)
        refine go_smpq PM180 (L' := [some (.inr (.inr (some 79))), some (.inl p1), some (.inl p2), some (.inl p3), some (.inl p4), none, none, none]) (st' := []) (w' := (SH, (u2 dt 94 (p2).toNat (dt 92 (p2).toNat)))) rfl rfl (s_iast (n := 3) rfl (by first | exact bndx h_p2 (by decide) (by decide) | exact ⟨by fail, by fail⟩) (by first | exact bnd r3 (by decide) (by decide) | exact ⟨by fail, by fail⟩)) ?_
        refine go_toq PM180 (k := 4) (pc' := 48) (L' := [some (.inr (.inr (some 79))), some (.inl p1), some (.inl p2), some (.inl p3), some (.inl p4), none, none, none]) (st' := [.inl p3, .inl p2, .inr (.inr (some 92))]) (w' := (SH, (u2 dt 94 (p2).toNat (dt 92 (p2).toNat)))) rfl ?_
        have hI635 : InvC (u2 (u2 dt 94 (p2).toNat (dt 92 (p2).toNat)) 92 (p2).toNat p3) := InvC_u2 hI633 (lo := -2147483648) (hi := 2147483647) rfl rfl rfl (by first | exact bnd1 h_p3 (by decide) | fail) (by first | exact bnd2 h_p3 (by decide) | fail)
        have hF636 : Fr [90, 92, 93, 94, 95, 96, 97, 98, 99] dt (u2 (u2 dt 94 (p2).toNat (dt 92 (p2).toNat)) 92 (p2).toNat p3) := Fr_u2 hF634 (by decide)
        refine go_smpq PM180 (L' := [some (.inr (.inr (some 79))), some (.inl p1), some (.inl p2), some (.inl p3), some (.inl p4), none, none, none]) (st' := []) (w' := (SH, (u2 (u2 dt 94 (p2).toNat (dt 92 (p2).toNat)) 92 (p2).toNat p3))) rfl rfl (s_iast (n := 3) rfl (by first | exact bndx h_p2 (by decide) (by decide) | exact ⟨by fail, by fail⟩) (by first | exact bnd h_p3 (by decide) (by decide) | exact ⟨by fail, by fail⟩)) ?_
        refine go_toq PM180 (k := 4) (pc' := 55) (L' := [some (.inr (.inr (some 79))), some (.inl p1), some (.inl p2), some (.inl p3), some (.inl p4), none, none, none]) (st' := [.inl p2, .inr (.inr (some 93)), .inl p2, .inr (.inr (some 93))]) (w' := (SH, (u2 (u2 dt 94 (p2).toNat (dt 92 (p2).toNat)) 92 (p2).toNat p3))) rfl ?_
        have r637 : (-2147483648) ≤ dt 93 (p2).toNat ∧ dt 93 (p2).toNat ≤ 2147483647 := InvC_get hI 93 (p2).toNat rfl rfl
        refine go_smpq PM180 (L' := [some (.inr (.inr (some 79))), some (.inl p1), some (.inl p2), some (.inl p3), some (.inl p4), none, none, none]) (st' := [.inl (dt 93 (p2).toNat), .inl p2, .inr (.inr (some 93))]) (w' := (SH, (u2 (u2 dt 94 (p2).toNat (dt 92 (p2).toNat)) 92 (p2).toNat p3))) rfl rfl (s_iald (n := 3) (f := (u2 (u2 dt 94 (p2).toNat (dt 92 (p2).toNat)) 92 (p2).toNat p3) 93) rfl (by first | exact bndx h_p2 (by decide) (by decide) | exact ⟨by fail, by fail⟩)) ?_
        refine go_toq PM180 (k := 2) (pc' := 58) (L' := [some (.inr (.inr (some 79))), some (.inl p1), some (.inl p2), some (.inl p3), some (.inl p4), none, none, none]) (st' := [.inl ((dt 93 (p2).toNat) + 1), .inl p2, .inr (.inr (some 93))]) (w' := (SH, (u2 (u2 dt 94 (p2).toNat (dt 92 (p2).toNat)) 92 (p2).toNat p3))) rfl ?_
        have r638 := wr_RR ((dt 93 (p2).toNat) + 1)
        have hI639 : InvC (u2 (u2 (u2 dt 94 (p2).toNat (dt 92 (p2).toNat)) 92 (p2).toNat p3) 93 (p2).toNat (wr ((dt 93 (p2).toNat) + 1))) := InvC_u2 hI635 (lo := -2147483648) (hi := 2147483647) rfl rfl rfl (by omega) (by omega)
        have hF640 : Fr [90, 92, 93, 94, 95, 96, 97, 98, 99] dt (u2 (u2 (u2 dt 94 (p2).toNat (dt 92 (p2).toNat)) 92 (p2).toNat p3) 93 (p2).toNat (wr ((dt 93 (p2).toNat) + 1))) := Fr_u2 hF636 (by decide)
        refine go_smpq PM180 (L' := [some (.inr (.inr (some 79))), some (.inl p1), some (.inl p2), some (.inl p3), some (.inl p4), none, none, none]) (st' := []) (w' := (SH, (u2 (u2 (u2 dt 94 (p2).toNat (dt 92 (p2).toNat)) 92 (p2).toNat p3) 93 (p2).toNat (wr ((dt 93 (p2).toNat) + 1))))) rfl rfl (s_iastw (n := 3) rfl (by first | exact bndx h_p2 (by decide) (by decide) | exact ⟨by fail, by fail⟩)) ?_
        refine go_toq PM180 (k := 3) (pc' := 64) (L' := [some (.inr (.inr (some 79))), some (.inl p1), some (.inl p2), some (.inl p3), some (.inl p4), none, none, none]) (st' := [.inl p2, .inr (.inr (some 93))]) (w' := (SH, (u2 (u2 (u2 dt 94 (p2).toNat (dt 92 (p2).toNat)) 92 (p2).toNat p3) 93 (p2).toNat (wr ((dt 93 (p2).toNat) + 1))))) rfl ?_
        have e641 : (u2 (u2 (u2 dt 94 (p2).toNat (dt 92 (p2).toNat)) 92 (p2).toNat p3) 93 (p2).toNat (wr ((dt 93 (p2).toNat) + 1))) 93 (p2).toNat = wr ((dt 93 (p2).toNat) + 1) := u2_eq
        refine go_smpq PM180 (L' := [some (.inr (.inr (some 79))), some (.inl p1), some (.inl p2), some (.inl p3), some (.inl p4), none, none, none]) (st' := [.inl ((u2 (u2 (u2 dt 94 (p2).toNat (dt 92 (p2).toNat)) 92 (p2).toNat p3) 93 (p2).toNat (wr ((dt 93 (p2).toNat) + 1))) 93 (p2).toNat)]) (w' := (SH, (u2 (u2 (u2 dt 94 (p2).toNat (dt 92 (p2).toNat)) 92 (p2).toNat p3) 93 (p2).toNat (wr ((dt 93 (p2).toNat) + 1))))) rfl rfl (s_iald (n := 3) (f := (u2 (u2 (u2 dt 94 (p2).toNat (dt 92 (p2).toNat)) 92 (p2).toNat p3) 93 (p2).toNat (wr ((dt 93 (p2).toNat) + 1))) 93) rfl (by first | exact bndx h_p2 (by decide) (by decide) | exact ⟨by fail, by fail⟩)) ?_
        have j645 : ∀ (j645_d : Nat → Nat → Int) (j645_hI : InvC j645_d) (j645_hF : Fr [90, 92, 93, 94, 95, 96, 97, 98, 99] dt j645_d), GO (am_XX L xs sio) (d + 2) 180 76 [some (.inr (.inr (some 79))), some (.inl p1), some (.inl p2), some (.inl p3), none, none, none, none] [] (SH, j645_d) (fun r w2 => ∃ dt2 : Nat → Nat → Int, w2 = (SH, dt2) ∧ InvC dt2 ∧ Fr [90, 92, 93, 94, 95, 96, 97, 98, 99] dt dt2 ∧ ((r = none ∧ True))) := by
          intro j645_d j645_hI j645_hF
          refine go_toq PM180 (k := 8) (pc' := 86) (L' := [some (.inr (.inr (some 79))), some (.inl p1), some (.inl p2), some (.inl p3), none, none, none, none]) (st' := [.inl p3, .inl ((3 * p1) + p2), .inr (.inr (some 98))]) (w' := (SH, j645_d)) rfl ?_
          have hI646 : InvC (u2 j645_d 98 (((3 * p1) + p2).toNat) p3) := InvC_u2 j645_hI (lo := -2147483648) (hi := 2147483647) rfl rfl rfl (by first | exact bnd1 h_p3 (by decide) | fail) (by first | exact bnd2 h_p3 (by decide) | fail)
          have hF647 : Fr [90, 92, 93, 94, 95, 96, 97, 98, 99] dt (u2 j645_d 98 (((3 * p1) + p2).toNat) p3) := Fr_u2 j645_hF (by decide)
          refine go_smpq PM180 (L' := [some (.inr (.inr (some 79))), some (.inl p1), some (.inl p2), some (.inl p3), none, none, none, none]) (st' := []) (w' := (SH, (u2 j645_d 98 (((3 * p1) + p2).toNat) p3))) rfl rfl (s_iast (n := 12) rfl ⟨by omega, by omega⟩ (by first | exact bnd h_p3 (by decide) (by decide) | exact ⟨by fail, by fail⟩)) ?_
          refine go_toq PM180 (k := 2) (pc' := 90) (L' := [some (.inr (.inr (some 79))), some (.inl p1), some (.inl p2), some (.inl p3), none, some (.inl 0), none, none]) (st' := []) (w' := (SH, (u2 j645_d 98 (((3 * p1) + p2).toNat) p3))) rfl ?_
          have loop1022 : ∀ (k_ : Nat) (l90_5 : Int) (dt1018 : Nat → Nat → Int) (hI1019 : InvC dt1018) (hF1020 : Fr [90, 92, 93, 94, 95, 96, 97, 98, 99] dt dt1018) (i1021 : 0 ≤ l90_5 ∧ l90_5 ≤ 4), (5 - l90_5).toNat < k_ → GO (am_XX L xs sio) (d + 2) 180 90 [some (.inr (.inr (some 79))), some (.inl p1), some (.inl p2), some (.inl p3), none, some (.inl l90_5), none, none] [] (SH, dt1018) (fun r w2 => ∃ dt2 : Nat → Nat → Int, w2 = (SH, dt2) ∧ InvC dt2 ∧ Fr [90, 92, 93, 94, 95, 96, 97, 98, 99] dt dt2 ∧ ((r = none ∧ True))) := by
            intro k_
            induction k_ with
            | zero => intro l90_5 dt1018 hI1019 hF1020 i1021 hm; exact absurd hm (Nat.not_lt_zero _)
            | succ k_ ih_loop1022 =>
              intro l90_5 dt1018 hI1019 hF1020 i1021 hm
              refine go_ifq PM180 (k := 2) (p1 := 226) (p2 := 96) (L' := [some (.inr (.inr (some 79))), some (.inl p1), some (.inl p2), some (.inl p3), none, some (.inl l90_5), none, none]) (st' := []) (w' := (SH, dt1018)) rfl (c_ge (a := l90_5) (b := 4) (by first | exact bnd i1021 (by decide) (by decide) | exact ⟨by fail, by fail⟩) ⟨by decide, by decide⟩) (fun c1096 => ?_) (fun c1096 => ?_)
              · skip
                refine go_retq PM180 (k := 0) (r := none) (w1 := (SH, dt1018)) rfl ?_
                exact ⟨dt1018, rfl, hI1019, hF1020, ⟨rfl, trivial⟩⟩
              · skip
                have j1099 :  GO (am_XX L xs sio) (d + 2) 180 116 [some (.inr (.inr (some 79))), some (.inl p1), some (.inl p2), some (.inl p3), none, some (.inl l90_5), none, none] [.inl 1] (SH, dt1018) (fun r w2 => ∃ dt2 : Nat → Nat → Int, w2 = (SH, dt2) ∧ InvC dt2 ∧ Fr [90, 92, 93, 94, 95, 96, 97, 98, 99] dt dt2 ∧ ((r = none ∧ True))) := by
                  skip
                  refine go_toq PM180 (k := 9) (pc' := 130) (L' := [some (.inr (.inr (some 79))), some (.inl p1), some (.inl p2), some (.inl p3), none, some (.inl l90_5), some (.inl 1), none]) (st' := [.inl 1, .inl ((3 * l90_5) + p2), .inr (.inr (some 90))]) (w' := (SH, dt1018)) rfl ?_
                  have hI1100 : InvC (u2 dt1018 90 (((3 * l90_5) + p2).toNat) 1) := InvC_u2 hI1019 (lo := 0) (hi := 1) rfl rfl rfl (by decide) (by decide)
                  have hF1101 : Fr [90, 92, 93, 94, 95, 96, 97, 98, 99] dt (u2 dt1018 90 (((3 * l90_5) + p2).toNat) 1) := Fr_u2 hF1020 (by decide)
                  refine go_smpq PM180 (L' := [some (.inr (.inr (some 79))), some (.inl p1), some (.inl p2), some (.inl p3), none, some (.inl l90_5), some (.inl 1), none]) (st' := []) (w' := (SH, (u2 dt1018 90 (((3 * l90_5) + p2).toNat) 1))) rfl rfl (s_zast (n := 12) rfl ⟨by omega, by omega⟩ (by omega)) ?_
                  refine go_toq PM180 (k := 10) (pc' := 150) (L' := [some (.inr (.inr (some 79))), some (.inl p1), some (.inl p2), some (.inl p3), none, some (.inl l90_5), some (.inl 1), none]) (st' := [.inl p3, .inl ((3 * l90_5) + p2), .inr (.inr (some 96))]) (w' := (SH, (u2 dt1018 90 (((3 * l90_5) + p2).toNat) 1))) rfl ?_
                  have hI1167 : InvC (u2 (u2 dt1018 90 (((3 * l90_5) + p2).toNat) 1) 96 (((3 * l90_5) + p2).toNat) p3) := InvC_u2 hI1100 (lo := -2147483648) (hi := 2147483647) rfl rfl rfl (by first | exact bnd1 h_p3 (by decide) | fail) (by first | exact bnd2 h_p3 (by decide) | fail)
                  have hF1168 : Fr [90, 92, 93, 94, 95, 96, 97, 98, 99] dt (u2 (u2 dt1018 90 (((3 * l90_5) + p2).toNat) 1) 96 (((3 * l90_5) + p2).toNat) p3) := Fr_u2 hF1101 (by decide)
                  refine go_smpq PM180 (L' := [some (.inr (.inr (some 79))), some (.inl p1), some (.inl p2), some (.inl p3), none, some (.inl l90_5), some (.inl 1), none]) (st' := []) (w' := (SH, (u2 (u2 dt1018 90 (((3 * l90_5) + p2).toNat) 1) 96 (((3 * l90_5) + p2).toNat) p3))) rfl rfl (s_iast (n := 12) rfl ⟨by omega, by omega⟩ (by first | exact bnd h_p3 (by decide) (by decide) | exact ⟨by fail, by fail⟩)) ?_
                  refine go_toq PM180 (k := 8) (pc' := 162) (L' := [some (.inr (.inr (some 79))), some (.inl p1), some (.inl p2), some (.inl p3), none, some (.inl l90_5), some (.inl 1), none]) (st' := [.inl p3, .inl ((3 * l90_5) + p2), .inr (.inr (some 97))]) (w' := (SH, (u2 (u2 dt1018 90 (((3 * l90_5) + p2).toNat) 1) 96 (((3 * l90_5) + p2).toNat) p3))) rfl ?_
                  have hI1169 : InvC (u2 (u2 (u2 dt1018 90 (((3 * l90_5) + p2).toNat) 1) 96 (((3 * l90_5) + p2).toNat) p3) 97 (((3 * l90_5) + p2).toNat) p3) := InvC_u2 hI1167 (lo := -2147483648) (hi := 2147483647) rfl rfl rfl (by first | exact bnd1 h_p3 (by decide) | fail) (by first | exact bnd2 h_p3 (by decide) | fail)
                  have hF1170 : Fr [90, 92, 93, 94, 95, 96, 97, 98, 99] dt (u2 (u2 (u2 dt1018 90 (((3 * l90_5) + p2).toNat) 1) 96 (((3 * l90_5) + p2).toNat) p3) 97 (((3 * l90_5) + p2).toNat) p3) := Fr_u2 hF1168 (by decide)
                  refine go_smpq PM180 (L' := [some (.inr (.inr (some 79))), some (.inl p1), some (.inl p2), some (.inl p3), none, some (.inl l90_5), some (.inl 1), none]) (st' := []) (w' := (SH, (u2 (u2 (u2 dt1018 90 (((3 * l90_5) + p2).toNat) 1) 96 (((3 * l90_5) + p2).toNat) p3) 97 (((3 * l90_5) + p2).toNat) p3))) rfl rfl (s_iast (n := 12) rfl ⟨by omega, by omega⟩ (by first | exact bnd h_p3 (by decide) (by decide) | exact ⟨by fail, by fail⟩)) ?_
                  refine go_toq PM180 (k := 2) (pc' := 166) (L' := [some (.inr (.inr (some 79))), some (.inl p1), some (.inl p2), some (.inl p3), none, some (.inl l90_5), some (.inl 1), some (.inl 0)]) (st' := []) (w' := (SH, (u2 (u2 (u2 dt1018 90 (((3 * l90_5) + p2).toNat) 1) 96 (((3 * l90_5) + p2).toNat) p3) 97 (((3 * l90_5) + p2).toNat) p3))) rfl ?_
                  have loop1225 : ∀ (k_ : Nat) (l166_7 : Int) (dt1221 : Nat → Nat → Int) (hI1222 : InvC dt1221) (hF1223 : Fr [90, 92, 93, 94, 95, 96, 97, 98, 99] dt dt1221) (i1224 : 0 ≤ l166_7 ∧ l166_7 ≤ 4), (5 - l166_7).toNat < k_ → GO (am_XX L xs sio) (d + 2) 180 166 [some (.inr (.inr (some 79))), some (.inl p1), some (.inl p2), some (.inl p3), none, some (.inl l90_5), none, some (.inl l166_7)] [] (SH, dt1221) (fun r w2 => ∃ dt2 : Nat → Nat → Int, w2 = (SH, dt2) ∧ InvC dt2 ∧ Fr [90, 92, 93, 94, 95, 96, 97, 98, 99] dt dt2 ∧ ((r = none ∧ True))) := by
                    intro k_
                    induction k_ with
                    | zero => intro l166_7 dt1221 hI1222 hF1223 i1224 hm; exact absurd hm (Nat.not_lt_zero _)
                    | succ k_ ih_loop1225 =>
                      intro l166_7 dt1221 hI1222 hF1223 i1224 hm
                      refine go_ifq PM180 (k := 2) (p1 := 220) (p2 := 172) (L' := [some (.inr (.inr (some 79))), some (.inl p1), some (.inl p2), some (.inl p3), none, some (.inl l90_5), none, some (.inl l166_7)]) (st' := []) (w' := (SH, dt1221)) rfl (c_ge (a := l166_7) (b := 4) (by first | exact bnd i1224 (by decide) (by decide) | exact ⟨by fail, by fail⟩) ⟨by decide, by decide⟩) (fun c1235 => ?_) (fun c1235 => ?_)
                      · skip
                        refine go_toq PM180 (k := 2) (pc' := 90) (L' := [some (.inr (.inr (some 79))), some (.inl p1), some (.inl p2), some (.inl p3), none, some (.inl (l90_5 + 1)), none, some (.inl l166_7)]) (st' := []) (w' := (SH, dt1221)) rfl ?_
                        exact GO.le (ih_loop1022 (l90_5 + 1) dt1221 hI1222 hF1223 (by first | exact bndp i1021 (by decide) (by decide) | exact bnde i1021 c1096 (by decide) (by decide) | fail) (by omega)) ⟨.inl rfl, .inl rfl, .inl rfl, .inl rfl, .inl rfl, .inl rfl, .inl rfl, .inr ⟨rfl, trivial⟩, trivial⟩
                      · skip
                        have j1243 : ∀ (j1243_d : Nat → Nat → Int) (j1243_hI : InvC j1243_d) (j1243_hF : Fr [90, 92, 93, 94, 95, 96, 97, 98, 99] dt j1243_d), GO (am_XX L xs sio) (d + 2) 180 214 [some (.inr (.inr (some 79))), some (.inl p1), some (.inl p2), some (.inl p3), none, some (.inl l90_5), none, some (.inl l166_7)] [] (SH, j1243_d) (fun r w2 => ∃ dt2 : Nat → Nat → Int, w2 = (SH, dt2) ∧ InvC dt2 ∧ Fr [90, 92, 93, 94, 95, 96, 97, 98, 99] dt dt2 ∧ ((r = none ∧ True))) := by
                          intro j1243_d j1243_hI j1243_hF
                          refine go_toq PM180 (k := 2) (pc' := 166) (L' := [some (.inr (.inr (some 79))), some (.inl p1), some (.inl p2), some (.inl p3), none, some (.inl l90_5), none, some (.inl (l166_7 + 1))]) (st' := []) (w' := (SH, j1243_d)) rfl ?_
                          exact GO.le (ih_loop1225 (l166_7 + 1) j1243_d j1243_hI j1243_hF (by first | exact bndp i1224 (by decide) (by decide) | exact bnde i1224 c1235 (by decide) (by decide) | fail) (by omega)) ⟨.inl rfl, .inl rfl, .inl rfl, .inl rfl, .inl rfl, .inl rfl, .inl rfl, .inl rfl, trivial⟩
                        refine go_ifq PM180 (k := 2) (p1 := 214) (p2 := 179) (L' := [some (.inr (.inr (some 79))), some (.inl p1), some (.inl p2), some (.inl p3), none, some (.inl l90_5), none, some (.inl l166_7)]) (st' := []) (w' := (SH, dt1221)) rfl (c_eq (a := l166_7) (b := l90_5) (by first | exact bnd i1224 (by decide) (by decide) | exact bndd i1224 c1235 (by decide) (by decide) | exact ⟨by fail, by fail⟩) (by first | exact bnd i1021 (by decide) (by decide) | exact bndd i1021 c1096 (by decide) (by decide) | exact ⟨by fail, by fail⟩)) (fun c1244 => ?_) (fun c1244 => ?_)
                        · skip
                          exact GO.le (j1243 dt1221 hI1222 hF1223) ⟨.inl rfl, .inl rfl, .inl rfl, .inl rfl, .inl rfl, .inl rfl, .inl rfl, .inl rfl, trivial⟩
                        · skip
                          replace c1244 := hid c1244
                          refine go_ifq PM180 (k := 2) (p1 := 196) (p2 := 185) (L' := [some (.inr (.inr (some 79))), some (.inl p1), some (.inl p2), some (.inl p3), none, some (.inl l90_5), none, some (.inl l166_7)]) (st' := []) (w' := (SH, dt1221)) rfl (c_eq (a := l166_7) (b := p1) (by first | exact bnd i1224 (by decide) (by decide) | exact bndd i1224 c1235 (by decide) (by decide) | exact ⟨by fail, by fail⟩) (by first | exact bnd h_p1 (by decide) (by decide) | exact ⟨by fail, by fail⟩)) (fun c1245 => ?_) (fun c1245 => ?_)
                          · skip
                            refine go_toq PM180 (k := 12) (pc' := 213) (L' := [some (.inr (.inr (some 79))), some (.inl p1), some (.inl p2), some (.inl p3), none, some (.inl l90_5), none, some (.inl l166_7)]) (st' := [.inl p3, .inl (((12 * l90_5) + (3 * l166_7)) + p2), .inr (.inr (some 99))]) (w' := (SH, dt1221)) rfl ?_
                            have hI1246 : InvC (u2 dt1221 99 ((((12 * l90_5) + (3 * l166_7)) + p2).toNat) p3) := InvC_u2 hI1222 (lo := -2147483648) (hi := 2147483647) rfl rfl rfl (by first | exact bnd1 h_p3 (by decide) | fail) (by first | exact bnd2 h_p3 (by decide) | fail)
                            have hF1247 : Fr [90, 92, 93, 94, 95, 96, 97, 98, 99] dt (u2 dt1221 99 ((((12 * l90_5) + (3 * l166_7)) + p2).toNat) p3) := Fr_u2 hF1223 (by decide)
                            refine go_smpq PM180 (L' := [some (.inr (.inr (some 79))), some (.inl p1), some (.inl p2), some (.inl p3), none, some (.inl l90_5), none, some (.inl l166_7)]) (st' := []) (w' := (SH, (u2 dt1221 99 ((((12 * l90_5) + (3 * l166_7)) + p2).toNat) p3))) rfl rfl (s_iast (n := 48) rfl ⟨by omega, by omega⟩ (by first | exact bnd h_p3 (by decide) (by decide) | exact ⟨by fail, by fail⟩)) ?_
                            exact GO.le (j1243 (u2 dt1221 99 ((((12 * l90_5) + (3 * l166_7)) + p2).toNat) p3) hI1246 hF1247) ⟨.inl rfl, .inl rfl, .inl rfl, .inl rfl, .inl rfl, .inl rfl, .inl rfl, .inl rfl, trivial⟩
                          · skip
                            replace c1245 := hid c1245
                            refine go_toq PM180 (k := 3) (pc' := 190) (L' := [some (.inr (.inr (some 79))), some (.inl p1), some (.inl p2), some (.inl p3), none, some (.inl l90_5), none, some (.inl l166_7)]) (st' := [.inl l166_7, .inl l90_5, .inr (.inr (some 79))]) (w' := (SH, dt1221)) rfl ?_
                            refine go_callq PM180 PM179 (Q' := _) rfl rfl rfl rfl (sp_X6_takesForSeeing L xs sio (d + 0) dt1221 hI1222  l90_5 (by first | exact bnd i1021 (by decide) (by decide) | exact bndd i1021 c1096 (by decide) (by decide) | exact ⟨by fail, by fail⟩) l166_7 (by first | exact bnd i1224 (by decide) (by decide) | exact bndd i1224 c1235 (by decide) (by decide) | exact ⟨by fail, by fail⟩) ) ?_
                            rintro _ _ ⟨rfl, h1248⟩
                            refine ⟨rfl, ?_⟩
                            rcases h1248 with ⟨rfl, h1248⟩ | ⟨rfl, h1248⟩
                            · skip
                              refine go_toq PM180 (k := 13) (pc' := 213) (L' := [some (.inr (.inr (some 79))), some (.inl p1), some (.inl p2), some (.inl p3), none, some (.inl l90_5), none, some (.inl l166_7)]) (st' := [.inl p3, .inl (((12 * l90_5) + (3 * l166_7)) + p2), .inr (.inr (some 99))]) (w' := (SH, dt1221)) rfl ?_
                              have hI1249 : InvC (u2 dt1221 99 ((((12 * l90_5) + (3 * l166_7)) + p2).toNat) p3) := InvC_u2 hI1222 (lo := -2147483648) (hi := 2147483647) rfl rfl rfl (by first | exact bnd1 h_p3 (by decide) | fail) (by first | exact bnd2 h_p3 (by decide) | fail)
                              have hF1250 : Fr [90, 92, 93, 94, 95, 96, 97, 98, 99] dt (u2 dt1221 99 ((((12 * l90_5) + (3 * l166_7)) + p2).toNat) p3) := Fr_u2 hF1223 (by decide)
                              refine go_smpq PM180 (L' := [some (.inr (.inr (some 79))), some (.inl p1), some (.inl p2), some (.inl p3), none, some (.inl l90_5), none, some (.inl l166_7)]) (st' := []) (w' := (SH, (u2 dt1221 99 ((((12 * l90_5) + (3 * l166_7)) + p2).toNat) p3))) rfl rfl (s_iast (n := 48) rfl ⟨by omega, by omega⟩ (by first | exact bnd h_p3 (by decide) (by decide) | exact ⟨by fail, by fail⟩)) ?_
                              exact GO.le (j1243 (u2 dt1221 99 ((((12 * l90_5) + (3 * l166_7)) + p2).toNat) p3) hI1249 hF1250) ⟨.inl rfl, .inl rfl, .inl rfl, .inl rfl, .inl rfl, .inl rfl, .inl rfl, .inl rfl, trivial⟩
                            · skip
                              refine go_toq PM180 (k := 1) (pc' := 214) (L' := [some (.inr (.inr (some 79))), some (.inl p1), some (.inl p2), some (.inl p3), none, some (.inl l90_5), none, some (.inl l166_7)]) (st' := []) (w' := (SH, dt1221)) rfl ?_
                              exact GO.le (j1243 dt1221 hI1222 hF1223) ⟨.inl rfl, .inl rfl, .inl rfl, .inl rfl, .inl rfl, .inl rfl, .inl rfl, .inl rfl, trivial⟩
                  exact GO.le (loop1225 _ 0 (u2 (u2 (u2 dt1018 90 (((3 * l90_5) + p2).toNat) 1) 96 (((3 * l90_5) + p2).toNat) p3) 97 (((3 * l90_5) + p2).toNat) p3) hI1169 hF1170 ⟨by decide, by decide⟩ (Nat.lt_succ_self _)) ⟨.inl rfl, .inl rfl, .inl rfl, .inl rfl, .inl rfl, .inl rfl, .inr ⟨rfl, trivial⟩, .inl rfl, trivial⟩
                refine go_ifq PM180 (k := 2) (p1 := 111) (p2 := 102) (L' := [some (.inr (.inr (some 79))), some (.inl p1), some (.inl p2), some (.inl p3), none, some (.inl l90_5), none, none]) (st' := []) (w' := (SH, dt1018)) rfl (c_eq (a := l90_5) (b := p1) (by first | exact bnd i1021 (by decide) (by decide) | exact bndd i1021 c1096 (by decide) (by decide) | exact ⟨by fail, by fail⟩) (by first | exact bnd h_p1 (by decide) (by decide) | exact ⟨by fail, by fail⟩)) (fun c1251 => ?_) (fun c1251 => ?_)
                · skip
                  refine go_toq PM180 (k := 2) (pc' := 116) (L' := [some (.inr (.inr (some 79))), some (.inl p1), some (.inl p2), some (.inl p3), none, some (.inl l90_5), none, none]) (st' := [.inl 1]) (w' := (SH, dt1018)) rfl ?_
                  exact GO.le (j1099 ) ⟨.inl rfl, .inl rfl, .inl rfl, .inl rfl, .inl rfl, .inl rfl, .inl rfl, .inl rfl, trivial⟩
                · skip
                  replace c1251 := hid c1251
                  refine go_toq PM180 (k := 2) (pc' := 105) (L' := [some (.inr (.inr (some 79))), some (.inl p1), some (.inl p2), some (.inl p3), none, some (.inl l90_5), none, none]) (st' := [.inl l90_5, .inr (.inr (some 79))]) (w' := (SH, dt1018)) rfl ?_
                  refine go_callq PM180 PM178 (Q' := _) rfl rfl rfl rfl (sp_X6_canSee L xs sio (d + 1) dt1018 hI1019  l90_5 (by first | exact bnd i1021 (by decide) (by decide) | exact bndd i1021 c1096 (by decide) (by decide) | exact ⟨by fail, by fail⟩) ) ?_
                  rintro _ _ ⟨rfl, h1252⟩
                  refine ⟨rfl, ?_⟩
                  rcases h1252 with ⟨rfl, h1252⟩ | ⟨rfl, h1252⟩
                  · skip
                    refine go_toq PM180 (k := 3) (pc' := 116) (L' := [some (.inr (.inr (some 79))), some (.inl p1), some (.inl p2), some (.inl p3), none, some (.inl l90_5), none, none]) (st' := [.inl 1]) (w' := (SH, dt1018)) rfl ?_
                    exact GO.le (j1099 ) ⟨.inl rfl, .inl rfl, .inl rfl, .inl rfl, .inl rfl, .inl rfl, .inl rfl, .inl rfl, trivial⟩
                  · skip
                    refine go_toq PM180 (k := 11) (pc' := 130) (L' := [some (.inr (.inr (some 79))), some (.inl p1), some (.inl p2), some (.inl p3), none, some (.inl l90_5), some (.inl 0), none]) (st' := [.inl 0, .inl ((3 * l90_5) + p2), .inr (.inr (some 90))]) (w' := (SH, dt1018)) rfl ?_
                    have hI1253 : InvC (u2 dt1018 90 (((3 * l90_5) + p2).toNat) 0) := InvC_u2 hI1019 (lo := 0) (hi := 1) rfl rfl rfl (by decide) (by decide)
                    have hF1254 : Fr [90, 92, 93, 94, 95, 96, 97, 98, 99] dt (u2 dt1018 90 (((3 * l90_5) + p2).toNat) 0) := Fr_u2 hF1020 (by decide)
                    refine go_smpq PM180 (L' := [some (.inr (.inr (some 79))), some (.inl p1), some (.inl p2), some (.inl p3), none, some (.inl l90_5), some (.inl 0), none]) (st' := []) (w' := (SH, (u2 dt1018 90 (((3 * l90_5) + p2).toNat) 0))) rfl rfl (s_zast (n := 12) rfl ⟨by omega, by omega⟩ (by omega)) ?_
                    refine go_toq PM180 (k := 5) (pc' := 90) (L' := [some (.inr (.inr (some 79))), some (.inl p1), some (.inl p2), some (.inl p3), none, some (.inl (l90_5 + 1)), some (.inl 0), none]) (st' := []) (w' := (SH, (u2 dt1018 90 (((3 * l90_5) + p2).toNat) 0))) rfl ?_
                    exact GO.le (ih_loop1022 (l90_5 + 1) (u2 dt1018 90 (((3 * l90_5) + p2).toNat) 0) hI1253 hF1254 (by first | exact bndp i1021 (by decide) (by decide) | exact bnde i1021 c1096 (by decide) (by decide) | fail) (by omega)) ⟨.inl rfl, .inl rfl, .inl rfl, .inl rfl, .inl rfl, .inl rfl, .inr ⟨rfl, trivial⟩, .inl rfl, trivial⟩
          exact GO.le (loop1022 _ 0 (u2 j645_d 98 (((3 * p1) + p2).toNat) p3) hI646 hF647 ⟨by decide, by decide⟩ (Nat.lt_succ_self _)) ⟨.inl rfl, .inl rfl, .inl rfl, .inl rfl, .inl rfl, .inl rfl, .inl rfl, .inl rfl, trivial⟩
        refine go_ifq PM180 (k := 1) (p1 := 76) (p2 := 69) (L' := [some (.inr (.inr (some 79))), some (.inl p1), some (.inl p2), some (.inl p3), some (.inl p4), none, none, none]) (st' := []) (w' := (SH, (u2 (u2 (u2 dt 94 (p2).toNat (dt 92 (p2).toNat)) 92 (p2).toNat p3) 93 (p2).toNat (wr ((dt 93 (p2).toNat) + 1))))) rfl (c_ne (a := (u2 (u2 (u2 dt 94 (p2).toNat (dt 92 (p2).toNat)) 92 (p2).toNat p3) 93 (p2).toNat (wr ((dt 93 (p2).toNat) + 1))) 93 (p2).toNat) (b := 1) ⟨by omega, by omega⟩ ⟨by decide, by decide⟩) (fun c1255 => ?_) (fun c1255 => ?_)
        · skip
          replace c1255 := hid c1255
          exact GO.le (j645 (u2 (u2 (u2 dt 94 (p2).toNat (dt 92 (p2).toNat)) 92 (p2).toNat p3) 93 (p2).toNat (wr ((dt 93 (p2).toNat) + 1))) hI639 hF640) ⟨.inl rfl, .inl rfl, .inl rfl, .inl rfl, .inr ⟨rfl, trivial⟩, .inl rfl, .inl rfl, .inl rfl, trivial⟩
        · skip
          refine go_toq PM180 (k := 4) (pc' := 75) (L' := [some (.inr (.inr (some 79))), some (.inl p1), some (.inl p2), some (.inl p3), some (.inl p4), none, none, none]) (st' := [.inl p3, .inl p2, .inr (.inr (some 95))]) (w' := (SH, (u2 (u2 (u2 dt 94 (p2).toNat (dt 92 (p2).toNat)) 92 (p2).toNat p3) 93 (p2).toNat (wr ((dt 93 (p2).toNat) + 1))))) rfl ?_
          have hI1256 : InvC (u2 (u2 (u2 (u2 dt 94 (p2).toNat (dt 92 (p2).toNat)) 92 (p2).toNat p3) 93 (p2).toNat (wr ((dt 93 (p2).toNat) + 1))) 95 (p2).toNat p3) := InvC_u2 hI639 (lo := -2147483648) (hi := 2147483647) rfl rfl rfl (by first | exact bnd1 h_p3 (by decide) | fail) (by first | exact bnd2 h_p3 (by decide) | fail)
          have hF1257 : Fr [90, 92, 93, 94, 95, 96, 97, 98, 99] dt (u2 (u2 (u2 (u2 dt 94 (p2).toNat (dt 92 (p2).toNat)) 92 (p2).toNat p3) 93 (p2).toNat (wr ((dt 93 (p2).toNat) + 1))) 95 (p2).toNat p3) := Fr_u2 hF640 (by decide)
          refine go_smpq PM180 (L' := [some (.inr (.inr (some 79))), some (.inl p1), some (.inl p2), some (.inl p3), some (.inl p4), none, none, none]) (st' := []) (w' := (SH, (u2 (u2 (u2 (u2 dt 94 (p2).toNat (dt 92 (p2).toNat)) 92 (p2).toNat p3) 93 (p2).toNat (wr ((dt 93 (p2).toNat) + 1))) 95 (p2).toNat p3))) rfl rfl (s_iast (n := 3) rfl (by first | exact bndx h_p2 (by decide) (by decide) | exact ⟨by fail, by fail⟩) (by first | exact bnd h_p3 (by decide) (by decide) | exact ⟨by fail, by fail⟩)) ?_
          exact GO.le (j645 (u2 (u2 (u2 (u2 dt 94 (p2).toNat (dt 92 (p2).toNat)) 92 (p2).toNat p3) 93 (p2).toNat (wr ((dt 93 (p2).toNat) + 1))) 95 (p2).toNat p3) hI1256 hF1257) ⟨.inl rfl, .inl rfl, .inl rfl, .inl rfl, .inr ⟨rfl, trivial⟩, .inl rfl, .inl rfl, .inl rfl, trivial⟩
      · skip
        have qc632 : p4 ≤ 0 := by omega
        replace c632 := hid c632
        refine go_retq PM180 (k := 0) (r := none) (w1 := (SH, dt)) rfl ?_
        exact ⟨dt, rfl, hI, hF, ⟨rfl, trivial⟩⟩
set_option maxRecDepth 20000 in
theorem sp_X6_tells (L : Nat) (xs : Nat → Int32) (sio : Option Nat) (d : Nat) (dt : Nat → Nat → Int) (hI : InvC dt)  (p1 : Int) (h_p1 : 0 ≤ p1 ∧ p1 ≤ 3) (p2 : Int) (h_p2 : 0 ≤ p2 ∧ p2 ≤ 3) (p3 : Int) (h_p3 : 0 ≤ p3 ∧ p3 ≤ 2) (p4 : Int) (h_p4 : 0 ≤ p4 ∧ p4 ≤ 3)  : GO (am_XX L xs sio) (d) 181 0 [some (.inr (.inr (some 79))), some (.inl p1), some (.inl p2), some (.inl p3), some (.inl p4), none] [] (SH, dt) (fun r w2 => ∃ dt2 : Nat → Nat → Int, w2 = (SH, dt2) ∧ InvC dt2 ∧ Fr [96, 99] dt dt2 ∧ ((r = none ∧ True))) := by
  have hF : Fr [96, 99] dt dt := Fr_refl
  refine go_toq PM181 (k := 3) (pc' := 5) (L' := [some (.inr (.inr (some 79))), some (.inl p1), some (.inl p2), some (.inl p3), some (.inl p4), none]) (st' := [.inl p1, .inr (.inr (some 88))]) (w' := (SH, dt)) rfl ?_
  have r1 : 0 ≤ dt 88 (p1).toNat ∧ dt 88 (p1).toNat ≤ 1 := InvC_get hI 88 (p1).toNat rfl rfl
  refine go_smpq PM181 (L' := [some (.inr (.inr (some 79))), some (.inl p1), some (.inl p2), some (.inl p3), some (.inl p4), none]) (st' := [.inl (dt 88 (p1).toNat)]) (w' := (SH, dt)) rfl rfl (s_zald (n := 4) (f := dt 88) rfl (by first | exact bndx h_p1 (by decide) (by decide) | exact ⟨by fail, by fail⟩)) ?_
  refine go_ifq PM181 (k := 0) (p1 := 18) (p2 := 9) (L' := [some (.inr (.inr (some 79))), some (.inl p1), some (.inl p2), some (.inl p3), some (.inl p4), none]) (st' := []) (w' := (SH, dt)) rfl (z_eq (a := dt 88 (p1).toNat) (by first | exact bnd r1 (by decide) (by decide) | exact ⟨by fail, by fail⟩)) (fun c2 => ?_) (fun c2 => ?_)
  · skip
    refine go_retq PM181 (k := 0) (r := none) (w1 := (SH, dt)) rfl ?_
    exact ⟨dt, rfl, hI, hF, ⟨rfl, trivial⟩⟩
  · skip
    have qc2 : 1 ≤ dt 88 (p1).toNat := by omega
    replace c2 := hid c2
    refine go_toq PM181 (k := 3) (pc' := 14) (L' := [some (.inr (.inr (some 79))), some (.inl p1), some (.inl p2), some (.inl p3), some (.inl p4), none]) (st' := [.inl p2, .inr (.inr (some 88))]) (w' := (SH, dt)) rfl ?_
    have r3 : 0 ≤ dt 88 (p2).toNat ∧ dt 88 (p2).toNat ≤ 1 := InvC_get hI 88 (p2).toNat rfl rfl
    refine go_smpq PM181 (L' := [some (.inr (.inr (some 79))), some (.inl p1), some (.inl p2), some (.inl p3), some (.inl p4), none]) (st' := [.inl (dt 88 (p2).toNat)]) (w' := (SH, dt)) rfl rfl (s_zald (n := 4) (f := dt 88) rfl (by first | exact bndx h_p2 (by decide) (by decide) | exact ⟨by fail, by fail⟩)) ?_
    refine go_ifq PM181 (k := 0) (p1 := 19) (p2 := 18) (L' := [some (.inr (.inr (some 79))), some (.inl p1), some (.inl p2), some (.inl p3), some (.inl p4), none]) (st' := []) (w' := (SH, dt)) rfl (z_ne (a := dt 88 (p2).toNat) (by first | exact bnd r3 (by decide) (by decide) | exact ⟨by fail, by fail⟩)) (fun c4 => ?_) (fun c4 => ?_)
    · skip
      have qc4 : 1 ≤ dt 88 (p2).toNat := by omega
      replace c4 := hid c4
      refine go_toq PM181 (k := 8) (pc' := 30) (L' := [some (.inr (.inr (some 79))), some (.inl p1), some (.inl p2), some (.inl p3), some (.inl p4), none]) (st' := [.inl p4, .inl ((3 * p2) + p3), .inr (.inr (some 96))]) (w' := (SH, dt)) rfl ?_
      have hI5 : InvC (u2 dt 96 (((3 * p2) + p3).toNat) p4) := InvC_u2 hI (lo := -2147483648) (hi := 2147483647) rfl rfl rfl (by first | exact bnd1 h_p4 (by decide) | fail) (by first | exact bnd2 h_p4 (by decide) | fail)
      have hF6 : Fr [96, 99] dt (u2 dt 96 (((3 * p2) + p3).toNat) p4) := Fr_u2 hF (by decide)
      refine go_smpq PM181 (L' := [some (.inr (.inr (some 79))), some (.inl p1), some (.inl p2), some (.inl p3), some (.inl p4), none]) (st' := []) (w' := (SH, (u2 dt 96 (((3 * p2) + p3).toNat) p4))) rfl rfl (s_iast (n := 12) rfl ⟨by omega, by omega⟩ (by first | exact bnd h_p4 (by decide) (by decide) | exact ⟨by fail, by fail⟩)) ?_
      refine go_toq PM181 (k := 2) (pc' := 34) (L' := [some (.inr (.inr (some 79))), some (.inl p1), some (.inl p2), some (.inl p3), some (.inl p4), some (.inl 0)]) (st' := []) (w' := (SH, (u2 dt 96 (((3 * p2) + p3).toNat) p4))) rfl ?_
      have loop51 : ∀ (k_ : Nat) (l34_5 : Int) (dt47 : Nat → Nat → Int) (hI48 : InvC dt47) (hF49 : Fr [96, 99] dt dt47) (i50 : 0 ≤ l34_5 ∧ l34_5 ≤ 4), (5 - l34_5).toNat < k_ → GO (am_XX L xs sio) (d) 181 34 [some (.inr (.inr (some 79))), some (.inl p1), some (.inl p2), some (.inl p3), some (.inl p4), some (.inl l34_5)] [] (SH, dt47) (fun r w2 => ∃ dt2 : Nat → Nat → Int, w2 = (SH, dt2) ∧ InvC dt2 ∧ Fr [96, 99] dt dt2 ∧ ((r = none ∧ True))) := by
        intro k_
        induction k_ with
        | zero => intro l34_5 dt47 hI48 hF49 i50 hm; exact absurd hm (Nat.not_lt_zero _)
        | succ k_ ih_loop51 =>
          intro l34_5 dt47 hI48 hF49 i50 hm
          refine go_ifq PM181 (k := 2) (p1 := 80) (p2 := 40) (L' := [some (.inr (.inr (some 79))), some (.inl p1), some (.inl p2), some (.inl p3), some (.inl p4), some (.inl l34_5)]) (st' := []) (w' := (SH, dt47)) rfl (c_ge (a := l34_5) (b := 4) (by first | exact bnd i50 (by decide) (by decide) | exact ⟨by fail, by fail⟩) ⟨by decide, by decide⟩) (fun c59 => ?_) (fun c59 => ?_)
          · skip
            refine go_toq PM181 (k := 12) (pc' := 96) (L' := [some (.inr (.inr (some 79))), some (.inl p1), some (.inl p2), some (.inl p3), some (.inl p4), some (.inl l34_5)]) (st' := [.inl p4, .inl (((12 * p2) + (3 * p1)) + p3), .inr (.inr (some 99))]) (w' := (SH, dt47)) rfl ?_
            have hI60 : InvC (u2 dt47 99 ((((12 * p2) + (3 * p1)) + p3).toNat) p4) := InvC_u2 hI48 (lo := -2147483648) (hi := 2147483647) rfl rfl rfl (by first | exact bnd1 h_p4 (by decide) | fail) (by first | exact bnd2 h_p4 (by decide) | fail)
            have hF61 : Fr [96, 99] dt (u2 dt47 99 ((((12 * p2) + (3 * p1)) + p3).toNat) p4) := Fr_u2 hF49 (by decide)
            refine go_smpq PM181 (L' := [some (.inr (.inr (some 79))), some (.inl p1), some (.inl p2), some (.inl p3), some (.inl p4), some (.inl l34_5)]) (st' := []) (w' := (SH, (u2 dt47 99 ((((12 * p2) + (3 * p1)) + p3).toNat) p4))) rfl rfl (s_iast (n := 48) rfl ⟨by omega, by omega⟩ (by first | exact bnd h_p4 (by decide) (by decide) | exact ⟨by fail, by fail⟩)) ?_
            refine go_retq PM181 (k := 0) (r := none) (w1 := (SH, (u2 dt47 99 ((((12 * p2) + (3 * p1)) + p3).toNat) p4))) rfl ?_
            exact ⟨(u2 dt47 99 ((((12 * p2) + (3 * p1)) + p3).toNat) p4), rfl, hI60, hF61, ⟨rfl, trivial⟩⟩
          · skip
            have j67 : ∀ (j67_d : Nat → Nat → Int) (j67_hI : InvC j67_d) (j67_hF : Fr [96, 99] dt j67_d), GO (am_XX L xs sio) (d) 181 74 [some (.inr (.inr (some 79))), some (.inl p1), some (.inl p2), some (.inl p3), some (.inl p4), some (.inl l34_5)] [] (SH, j67_d) (fun r w2 => ∃ dt2 : Nat → Nat → Int, w2 = (SH, dt2) ∧ InvC dt2 ∧ Fr [96, 99] dt dt2 ∧ ((r = none ∧ True))) := by
              intro j67_d j67_hI j67_hF
              refine go_toq PM181 (k := 2) (pc' := 34) (L' := [some (.inr (.inr (some 79))), some (.inl p1), some (.inl p2), some (.inl p3), some (.inl p4), some (.inl (l34_5 + 1))]) (st' := []) (w' := (SH, j67_d)) rfl ?_
              exact GO.le (ih_loop51 (l34_5 + 1) j67_d j67_hI j67_hF (by first | exact bndp i50 (by decide) (by decide) | exact bnde i50 c59 (by decide) (by decide) | fail) (by omega)) ⟨.inl rfl, .inl rfl, .inl rfl, .inl rfl, .inl rfl, .inl rfl, trivial⟩
            refine go_ifq PM181 (k := 2) (p1 := 74) (p2 := 46) (L' := [some (.inr (.inr (some 79))), some (.inl p1), some (.inl p2), some (.inl p3), some (.inl p4), some (.inl l34_5)]) (st' := []) (w' := (SH, dt47)) rfl (c_eq (a := l34_5) (b := p2) (by first | exact bnd i50 (by decide) (by decide) | exact bndd i50 c59 (by decide) (by decide) | exact ⟨by fail, by fail⟩) (by first | exact bnd h_p2 (by decide) (by decide) | exact ⟨by fail, by fail⟩)) (fun c68 => ?_) (fun c68 => ?_)
            · skip
              exact GO.le (j67 dt47 hI48 hF49) ⟨.inl rfl, .inl rfl, .inl rfl, .inl rfl, .inl rfl, .inl rfl, trivial⟩
            · skip
              replace c68 := hid c68
              refine go_toq PM181 (k := 3) (pc' := 52) (L' := [some (.inr (.inr (some 79))), some (.inl p1), some (.inl p2), some (.inl p3), some (.inl p4), some (.inl l34_5)]) (st' := [.inl l34_5, .inr (.inr (some 88))]) (w' := (SH, dt47)) rfl ?_
              have r69 : 0 ≤ dt47 88 (l34_5).toNat ∧ dt47 88 (l34_5).toNat ≤ 1 := InvC_get hI48 88 (l34_5).toNat rfl rfl
              refine go_smpq PM181 (L' := [some (.inr (.inr (some 79))), some (.inl p1), some (.inl p2), some (.inl p3), some (.inl p4), some (.inl l34_5)]) (st' := [.inl (dt47 88 (l34_5).toNat)]) (w' := (SH, dt47)) rfl rfl (s_zald (n := 4) (f := dt47 88) rfl (by first | exact bndc i50 c59 (by decide) (by decide) | exact bndx i50 (by decide) (by decide) | exact ⟨by fail, by fail⟩)) ?_
              refine go_ifq PM181 (k := 0) (p1 := 74) (p2 := 56) (L' := [some (.inr (.inr (some 79))), some (.inl p1), some (.inl p2), some (.inl p3), some (.inl p4), some (.inl l34_5)]) (st' := []) (w' := (SH, dt47)) rfl (z_eq (a := dt47 88 (l34_5).toNat) (by first | exact bnd r69 (by decide) (by decide) | exact ⟨by fail, by fail⟩)) (fun c70 => ?_) (fun c70 => ?_)
              · skip
                exact GO.le (j67 dt47 hI48 hF49) ⟨.inl rfl, .inl rfl, .inl rfl, .inl rfl, .inl rfl, .inl rfl, trivial⟩
              · skip
                have qc70 : 1 ≤ dt47 88 (l34_5).toNat := by omega
                replace c70 := hid c70
                refine go_toq PM181 (k := 12) (pc' := 73) (L' := [some (.inr (.inr (some 79))), some (.inl p1), some (.inl p2), some (.inl p3), some (.inl p4), some (.inl l34_5)]) (st' := [.inl p4, .inl (((12 * l34_5) + (3 * p2)) + p3), .inr (.inr (some 99))]) (w' := (SH, dt47)) rfl ?_
                have hI71 : InvC (u2 dt47 99 ((((12 * l34_5) + (3 * p2)) + p3).toNat) p4) := InvC_u2 hI48 (lo := -2147483648) (hi := 2147483647) rfl rfl rfl (by first | exact bnd1 h_p4 (by decide) | fail) (by first | exact bnd2 h_p4 (by decide) | fail)
                have hF72 : Fr [96, 99] dt (u2 dt47 99 ((((12 * l34_5) + (3 * p2)) + p3).toNat) p4) := Fr_u2 hF49 (by decide)
                refine go_smpq PM181 (L' := [some (.inr (.inr (some 79))), some (.inl p1), some (.inl p2), some (.inl p3), some (.inl p4), some (.inl l34_5)]) (st' := []) (w' := (SH, (u2 dt47 99 ((((12 * l34_5) + (3 * p2)) + p3).toNat) p4))) rfl rfl (s_iast (n := 48) rfl ⟨by omega, by omega⟩ (by first | exact bnd h_p4 (by decide) (by decide) | exact ⟨by fail, by fail⟩)) ?_
                exact GO.le (j67 (u2 dt47 99 ((((12 * l34_5) + (3 * p2)) + p3).toNat) p4) hI71 hF72) ⟨.inl rfl, .inl rfl, .inl rfl, .inl rfl, .inl rfl, .inl rfl, trivial⟩
      exact GO.le (loop51 _ 0 (u2 dt 96 (((3 * p2) + p3).toNat) p4) hI5 hF6 ⟨by decide, by decide⟩ (Nat.lt_succ_self _)) ⟨.inl rfl, .inl rfl, .inl rfl, .inl rfl, .inl rfl, .inl rfl, trivial⟩
    · skip
      refine go_retq PM181 (k := 0) (r := none) (w1 := (SH, dt)) rfl ?_
      exact ⟨dt, rfl, hI, hF, ⟨rfl, trivial⟩⟩
set_option maxRecDepth 20000 in
theorem sp_X6_lifts (L : Nat) (xs : Nat → Int32) (sio : Option Nat) (d : Nat) (dt : Nat → Nat → Int) (hI : InvC dt)  (p1 : Int) (h_p1 : 0 ≤ p1 ∧ p1 ≤ 3) (p2 : Int) (h_p2 : 0 ≤ p2 ∧ p2 ≤ 3)  : GO (am_XX L xs sio) (d + 1) 182 0 [some (.inr (.inr (some 79))), some (.inl p1), some (.inl p2), none, none, none] [] (SH, dt) (fun r w2 => ∃ dt2 : Nat → Nat → Int, w2 = (SH, dt2) ∧ InvC dt2 ∧ Fr [90, 96, 97, 99] dt dt2 ∧ ((r = none ∧ True))) := by
  have hF : Fr [90, 96, 97, 99] dt dt := Fr_refl
  refine go_toq PM182 (k := 2) (pc' := 2) (L' := [some (.inr (.inr (some 79))), some (.inl p1), some (.inl p2), none, none, none]) (st' := [.inl p1, .inr (.inr (some 79))]) (w' := (SH, dt)) rfl ?_
  refine go_callq PM182 PM178 (Q' := _) rfl rfl rfl rfl (sp_X6_canSee L xs sio (d + 0) dt hI  p1 (by first | exact h_p1 | exact bnd h_p1 (by decide) (by decide) | exact ⟨by fail, by fail⟩) ) ?_
  rintro _ _ ⟨rfl, h1⟩
  refine ⟨rfl, ?_⟩
  rcases h1 with ⟨rfl, h1⟩ | ⟨rfl, h1⟩
  · skip
    refine go_toq PM182 (k := 3) (pc' := 11) (L' := [some (.inr (.inr (some 79))), some (.inl p1), some (.inl p2), some (.inl 0), none, none]) (st' := []) (w' := (SH, dt)) rfl ?_
    have loop66 : ∀ (k_ : Nat) (l11_3 : Int) (dt62 : Nat → Nat → Int) (hI63 : InvC dt62) (hF64 : Fr [90, 96, 97, 99] dt dt62) (i65 : 0 ≤ l11_3 ∧ l11_3 ≤ 3), (4 - l11_3).toNat < k_ → GO (am_XX L xs sio) (d + 1) 182 11 [some (.inr (.inr (some 79))), some (.inl p1), some (.inl p2), some (.inl l11_3), none, none] [] (SH, dt62) (fun r w2 => ∃ dt2 : Nat → Nat → Int, w2 = (SH, dt2) ∧ InvC dt2 ∧ Fr [90, 96, 97, 99] dt dt2 ∧ ((r = none ∧ True))) := by
      intro k_
      induction k_ with
      | zero => intro l11_3 dt62 hI63 hF64 i65 hm; exact absurd hm (Nat.not_lt_zero _)
      | succ k_ ih_loop66 =>
        intro l11_3 dt62 hI63 hF64 i65 hm
        refine go_ifq PM182 (k := 2) (p1 := 93) (p2 := 16) (L' := [some (.inr (.inr (some 79))), some (.inl p1), some (.inl p2), some (.inl l11_3), none, none]) (st' := []) (w' := (SH, dt62)) rfl (c_ge (a := l11_3) (b := 3) (by first | exact bnd i65 (by decide) (by decide) | exact ⟨by fail, by fail⟩) ⟨by decide, by decide⟩) (fun c81 => ?_) (fun c81 => ?_)
        · skip
          refine go_toq PM182 (k := 2) (pc' := 95) (L' := [some (.inr (.inr (some 79))), some (.inl p1), some (.inl p2), some (.inl 0), none, none]) (st' := []) (w' := (SH, dt62)) rfl ?_
          have loop391 : ∀ (k_ : Nat) (l95_3 : Int) (dt387 : Nat → Nat → Int) (hI388 : InvC dt387) (hF389 : Fr [90, 96, 97, 99] dt dt387) (i390 : 0 ≤ l95_3 ∧ l95_3 ≤ 4), (5 - l95_3).toNat < k_ → GO (am_XX L xs sio) (d + 1) 182 95 [some (.inr (.inr (some 79))), some (.inl p1), some (.inl p2), some (.inl l95_3), none, none] [] (SH, dt387) (fun r w2 => ∃ dt2 : Nat → Nat → Int, w2 = (SH, dt2) ∧ InvC dt2 ∧ Fr [90, 96, 97, 99] dt dt2 ∧ ((r = none ∧ True))) := by
            intro k_
            induction k_ with
            | zero => intro l95_3 dt387 hI388 hF389 i390 hm; exact absurd hm (Nat.not_lt_zero _)
            | succ k_ ih_loop391 =>
              intro l95_3 dt387 hI388 hF389 i390 hm
              refine go_ifq PM182 (k := 2) (p1 := 195) (p2 := 100) (L' := [some (.inr (.inr (some 79))), some (.inl p1), some (.inl p2), some (.inl l95_3), none, none]) (st' := []) (w' := (SH, dt387)) rfl (c_ge (a := l95_3) (b := 4) (by first | exact bnd i390 (by decide) (by decide) | exact ⟨by fail, by fail⟩) ⟨by decide, by decide⟩) (fun c452 => ?_) (fun c452 => ?_)
              · skip
                refine go_retq PM182 (k := 0) (r := none) (w1 := (SH, dt387)) rfl ?_
                exact ⟨dt387, rfl, hI388, hF389, ⟨rfl, trivial⟩⟩
              · skip
                have j511 : ∀ (j511_d : Nat → Nat → Int) (j511_hI : InvC j511_d) (j511_hF : Fr [90, 96, 97, 99] dt j511_d), GO (am_XX L xs sio) (d + 1) 182 189 [some (.inr (.inr (some 79))), some (.inl p1), some (.inl p2), some (.inl l95_3), none, none] [] (SH, j511_d) (fun r w2 => ∃ dt2 : Nat → Nat → Int, w2 = (SH, dt2) ∧ InvC dt2 ∧ Fr [90, 96, 97, 99] dt dt2 ∧ ((r = none ∧ True))) := by
                  intro j511_d j511_hI j511_hF
                  refine go_toq PM182 (k := 2) (pc' := 95) (L' := [some (.inr (.inr (some 79))), some (.inl p1), some (.inl p2), some (.inl (l95_3 + 1)), none, none]) (st' := []) (w' := (SH, j511_d)) rfl ?_
                  exact GO.le (ih_loop391 (l95_3 + 1) j511_d j511_hI j511_hF (by first | exact bndp i390 (by decide) (by decide) | exact bnde i390 c452 (by decide) (by decide) | fail) (by omega)) ⟨.inl rfl, .inl rfl, .inl rfl, .inl rfl, .inl rfl, .inl rfl, trivial⟩
                refine go_ifq PM182 (k := 2) (p1 := 189) (p2 := 105) (L' := [some (.inr (.inr (some 79))), some (.inl p1), some (.inl p2), some (.inl l95_3), none, none]) (st' := []) (w' := (SH, dt387)) rfl (c_eq (a := l95_3) (b := p1) (by first | exact bnd i390 (by decide) (by decide) | exact bndd i390 c452 (by decide) (by decide) | exact ⟨by fail, by fail⟩) (by first | exact bnd h_p1 (by decide) (by decide) | exact ⟨by fail, by fail⟩)) (fun c512 => ?_) (fun c512 => ?_)
                · skip
                  exact GO.le (j511 dt387 hI388 hF389) ⟨.inl rfl, .inl rfl, .inl rfl, .inl rfl, .inl rfl, .inl rfl, trivial⟩
                · skip
                  replace c512 := hid c512
                  refine go_toq PM182 (k := 2) (pc' := 107) (L' := [some (.inr (.inr (some 79))), some (.inl p1), some (.inl p2), some (.inl l95_3), none, none]) (st' := [.inl l95_3, .inr (.inr (some 79))]) (w' := (SH, dt387)) rfl ?_
                  refine go_callq PM182 PM178 (Q' := _) rfl rfl rfl rfl (sp_X6_canSee L xs sio (d + 0) dt387 hI388  l95_3 (by first | exact bnd i390 (by decide) (by decide) | exact bndd i390 c452 (by decide) (by decide) | exact ⟨by fail, by fail⟩) ) ?_
                  rintro _ _ ⟨rfl, h513⟩
                  refine ⟨rfl, ?_⟩
                  rcases h513 with ⟨rfl, h513⟩ | ⟨rfl, h513⟩
                  · skip
                    refine go_toq PM182 (k := 3) (pc' := 119) (L' := [some (.inr (.inr (some 79))), some (.inl p1), some (.inl p2), some (.inl l95_3), some (.inl 0), none]) (st' := []) (w' := (SH, dt387)) rfl ?_
                    have loop562 : ∀ (k_ : Nat) (l119_4 : Int) (dt558 : Nat → Nat → Int) (hI559 : InvC dt558) (hF560 : Fr [90, 96, 97, 99] dt dt558) (i561 : 0 ≤ l119_4 ∧ l119_4 ≤ 3), (4 - l119_4).toNat < k_ → GO (am_XX L xs sio) (d + 1) 182 119 [some (.inr (.inr (some 79))), some (.inl p1), some (.inl p2), some (.inl l95_3), some (.inl l119_4), none] [] (SH, dt558) (fun r w2 => ∃ dt2 : Nat → Nat → Int, w2 = (SH, dt2) ∧ InvC dt2 ∧ Fr [90, 96, 97, 99] dt dt2 ∧ ((r = none ∧ True))) := by
                      intro k_
                      induction k_ with
                      | zero => intro l119_4 dt558 hI559 hF560 i561 hm; exact absurd hm (Nat.not_lt_zero _)
                      | succ k_ ih_loop562 =>
                        intro l119_4 dt558 hI559 hF560 i561 hm
                        refine go_ifq PM182 (k := 2) (p1 := 189) (p2 := 125) (L' := [some (.inr (.inr (some 79))), some (.inl p1), some (.inl p2), some (.inl l95_3), some (.inl l119_4), none]) (st' := []) (w' := (SH, dt558)) rfl (c_ge (a := l119_4) (b := 3) (by first | exact bnd i561 (by decide) (by decide) | exact ⟨by fail, by fail⟩) ⟨by decide, by decide⟩) (fun c563 => ?_) (fun c563 => ?_)
                        · skip
                          exact GO.le (j511 dt558 hI559 hF560) ⟨.inl rfl, .inl rfl, .inl rfl, .inl rfl, .inr ⟨rfl, trivial⟩, .inl rfl, trivial⟩
                        · skip
                          refine go_toq PM182 (k := 17) (pc' := 148) (L' := [some (.inr (.inr (some 79))), some (.inl p1), some (.inl p2), some (.inl l95_3), some (.inl l119_4), some (.inl (((12 * l95_3) + (3 * p1)) + l119_4))]) (st' := [.inl ((3 * l95_3) + l119_4), .inr (.inr (some 96))]) (w' := (SH, dt558)) rfl ?_
                          have r564 : (-2147483648) ≤ dt558 96 (((3 * l95_3) + l119_4).toNat) ∧ dt558 96 (((3 * l95_3) + l119_4).toNat) ≤ 2147483647 := InvC_get hI559 96 (((3 * l95_3) + l119_4).toNat) rfl rfl
                          refine go_smpq PM182 (L' := [some (.inr (.inr (some 79))), some (.inl p1), some (.inl p2), some (.inl l95_3), some (.inl l119_4), some (.inl (((12 * l95_3) + (3 * p1)) + l119_4))]) (st' := [.inl (dt558 96 (((3 * l95_3) + l119_4).toNat))]) (w' := (SH, dt558)) rfl rfl (s_iald (n := 12) (f := dt558 96) rfl ⟨by omega, by omega⟩) ?_
                          have j572 : ∀ (j572_d : Nat → Nat → Int) (j572_hI : InvC j572_d) (j572_hF : Fr [90, 96, 97, 99] dt j572_d), GO (am_XX L xs sio) (d + 1) 182 183 [some (.inr (.inr (some 79))), some (.inl p1), some (.inl p2), some (.inl l95_3), some (.inl l119_4), none] [] (SH, j572_d) (fun r w2 => ∃ dt2 : Nat → Nat → Int, w2 = (SH, dt2) ∧ InvC dt2 ∧ Fr [90, 96, 97, 99] dt dt2 ∧ ((r = none ∧ True))) := by
                            intro j572_d j572_hI j572_hF
                            refine go_toq PM182 (k := 2) (pc' := 119) (L' := [some (.inr (.inr (some 79))), some (.inl p1), some (.inl p2), some (.inl l95_3), some (.inl (l119_4 + 1)), none]) (st' := []) (w' := (SH, j572_d)) rfl ?_
                            exact GO.le (ih_loop562 (l119_4 + 1) j572_d j572_hI j572_hF (by first | exact bndp i561 (by decide) (by decide) | exact bnde i561 c563 (by decide) (by decide) | fail) (by omega)) ⟨.inl rfl, .inl rfl, .inl rfl, .inl rfl, .inl rfl, .inl rfl, trivial⟩
                          refine go_ifq PM182 (k := 1) (p1 := 164) (p2 := 153) (L' := [some (.inr (.inr (some 79))), some (.inl p1), some (.inl p2), some (.inl l95_3), some (.inl l119_4), some (.inl (((12 * l95_3) + (3 * p1)) + l119_4))]) (st' := []) (w' := (SH, dt558)) rfl (c_ne (a := dt558 96 (((3 * l95_3) + l119_4).toNat)) (b := p2) (by first | exact bnd r564 (by decide) (by decide) | exact ⟨by fail, by fail⟩) (by first | exact bnd h_p2 (by decide) (by decide) | exact ⟨by fail, by fail⟩)) (fun c573 => ?_) (fun c573 => ?_)
                          · skip
                            replace c573 := hid c573
                            refine go_toq PM182 (k := 3) (pc' := 170) (L' := [some (.inr (.inr (some 79))), some (.inl p1), some (.inl p2), some (.inl l95_3), some (.inl l119_4), some (.inl (((12 * l95_3) + (3 * p1)) + l119_4))]) (st' := [.inl (((12 * l95_3) + (3 * p1)) + l119_4), .inr (.inr (some 99))]) (w' := (SH, dt558)) rfl ?_
                            have r574 : (-2147483648) ≤ dt558 99 ((((12 * l95_3) + (3 * p1)) + l119_4).toNat) ∧ dt558 99 ((((12 * l95_3) + (3 * p1)) + l119_4).toNat) ≤ 2147483647 := InvC_get hI559 99 ((((12 * l95_3) + (3 * p1)) + l119_4).toNat) rfl rfl
                            refine go_smpq PM182 (L' := [some (.inr (.inr (some 79))), some (.inl p1), some (.inl p2), some (.inl l95_3), some (.inl l119_4), some (.inl (((12 * l95_3) + (3 * p1)) + l119_4))]) (st' := [.inl (dt558 99 ((((12 * l95_3) + (3 * p1)) + l119_4).toNat))]) (w' := (SH, dt558)) rfl rfl (s_iald (n := 48) (f := dt558 99) rfl ⟨by omega, by omega⟩) ?_
                            refine go_ifq PM182 (k := 1) (p1 := 183) (p2 := 175) (L' := [some (.inr (.inr (some 79))), some (.inl p1), some (.inl p2), some (.inl l95_3), some (.inl l119_4), some (.inl (((12 * l95_3) + (3 * p1)) + l119_4))]) (st' := []) (w' := (SH, dt558)) rfl (c_ne (a := dt558 99 ((((12 * l95_3) + (3 * p1)) + l119_4).toNat)) (b := p2) (by first | exact bnd r574 (by decide) (by decide) | exact ⟨by fail, by fail⟩) (by first | exact bnd h_p2 (by decide) (by decide) | exact ⟨by fail, by fail⟩)) (fun c575 => ?_) (fun c575 => ?_)
                            · skip
                              replace c575 := hid c575
                              exact GO.le (j572 dt558 hI559 hF560) ⟨.inl rfl, .inl rfl, .inl rfl, .inl rfl, .inl rfl, .inr ⟨rfl, trivial⟩, trivial⟩
                            · skip
                              refine go_toq PM182 (k := 4) (pc' := 182) (L' := [some (.inr (.inr (some 79))), some (.inl p1), some (.inl p2), some (.inl l95_3), some (.inl l119_4), some (.inl (((12 * l95_3) + (3 * p1)) + l119_4))]) (st' := [.inl (-1), .inl (((12 * l95_3) + (3 * p1)) + l119_4), .inr (.inr (some 99))]) (w' := (SH, dt558)) rfl ?_
                              have hI576 : InvC (u2 dt558 99 ((((12 * l95_3) + (3 * p1)) + l119_4).toNat) (-1)) := InvC_u2 hI559 (lo := -2147483648) (hi := 2147483647) rfl rfl rfl (by decide) (by decide)
                              have hF577 : Fr [90, 96, 97, 99] dt (u2 dt558 99 ((((12 * l95_3) + (3 * p1)) + l119_4).toNat) (-1)) := Fr_u2 hF560 (by decide)
                              refine go_smpq PM182 (L' := [some (.inr (.inr (some 79))), some (.inl p1), some (.inl p2), some (.inl l95_3), some (.inl l119_4), some (.inl (((12 * l95_3) + (3 * p1)) + l119_4))]) (st' := []) (w' := (SH, (u2 dt558 99 ((((12 * l95_3) + (3 * p1)) + l119_4).toNat) (-1)))) rfl rfl (s_iast (n := 48) rfl ⟨by omega, by omega⟩ ⟨by decide, by decide⟩) ?_
                              exact GO.le (j572 (u2 dt558 99 ((((12 * l95_3) + (3 * p1)) + l119_4).toNat) (-1)) hI576 hF577) ⟨.inl rfl, .inl rfl, .inl rfl, .inl rfl, .inl rfl, .inr ⟨rfl, trivial⟩, trivial⟩
                          · skip
                            refine go_toq PM182 (k := 4) (pc' := 160) (L' := [some (.inr (.inr (some 79))), some (.inl p1), some (.inl p2), some (.inl l95_3), some (.inl l119_4), some (.inl (((12 * l95_3) + (3 * p1)) + l119_4))]) (st' := [.inl p2, .inl (((12 * l95_3) + (3 * p1)) + l119_4), .inr (.inr (some 99))]) (w' := (SH, dt558)) rfl ?_
                            have hI578 : InvC (u2 dt558 99 ((((12 * l95_3) + (3 * p1)) + l119_4).toNat) p2) := InvC_u2 hI559 (lo := -2147483648) (hi := 2147483647) rfl rfl rfl (by first | exact bnd1 h_p2 (by decide) | fail) (by first | exact bnd2 h_p2 (by decide) | fail)
                            have hF579 : Fr [90, 96, 97, 99] dt (u2 dt558 99 ((((12 * l95_3) + (3 * p1)) + l119_4).toNat) p2) := Fr_u2 hF560 (by decide)
                            refine go_smpq PM182 (L' := [some (.inr (.inr (some 79))), some (.inl p1), some (.inl p2), some (.inl l95_3), some (.inl l119_4), some (.inl (((12 * l95_3) + (3 * p1)) + l119_4))]) (st' := []) (w' := (SH, (u2 dt558 99 ((((12 * l95_3) + (3 * p1)) + l119_4).toNat) p2))) rfl rfl (s_iast (n := 48) rfl ⟨by omega, by omega⟩ (by first | exact bnd h_p2 (by decide) (by decide) | exact ⟨by fail, by fail⟩)) ?_
                            refine go_toq PM182 (k := 1) (pc' := 183) (L' := [some (.inr (.inr (some 79))), some (.inl p1), some (.inl p2), some (.inl l95_3), some (.inl l119_4), some (.inl (((12 * l95_3) + (3 * p1)) + l119_4))]) (st' := []) (w' := (SH, (u2 dt558 99 ((((12 * l95_3) + (3 * p1)) + l119_4).toNat) p2))) rfl ?_
                            exact GO.le (j572 (u2 dt558 99 ((((12 * l95_3) + (3 * p1)) + l119_4).toNat) p2) hI578 hF579) ⟨.inl rfl, .inl rfl, .inl rfl, .inl rfl, .inl rfl, .inr ⟨rfl, trivial⟩, trivial⟩
                    exact GO.le (loop562 _ 0 dt387 hI388 hF389 ⟨by decide, by decide⟩ (Nat.lt_succ_self _)) ⟨.inl rfl, .inl rfl, .inl rfl, .inl rfl, .inl rfl, .inl rfl, trivial⟩
                  · skip
                    refine go_toq PM182 (k := 2) (pc' := 189) (L' := [some (.inr (.inr (some 79))), some (.inl p1), some (.inl p2), some (.inl l95_3), none, none]) (st' := []) (w' := (SH, dt387)) rfl ?_
                    exact GO.le (j511 dt387 hI388 hF389) ⟨.inl rfl, .inl rfl, .inl rfl, .inl rfl, .inl rfl, .inl rfl, trivial⟩
          exact GO.le (loop391 _ 0 dt62 hI63 hF64 ⟨by decide, by decide⟩ (Nat.lt_succ_self _)) ⟨.inl rfl, .inl rfl, .inl rfl, .inl rfl, .inl rfl, .inl rfl, trivial⟩
        · skip
          refine go_toq PM182 (k := 3) (pc' := 21) (L' := [some (.inr (.inr (some 79))), some (.inl p1), some (.inl p2), some (.inl l11_3), none, none]) (st' := [.inl l11_3, .inr (.inr (some 92))]) (w' := (SH, dt62)) rfl ?_
          have r580 : (-2147483648) ≤ dt62 92 (l11_3).toNat ∧ dt62 92 (l11_3).toNat ≤ 2147483647 := InvC_get hI63 92 (l11_3).toNat rfl rfl
          refine go_smpq PM182 (L' := [some (.inr (.inr (some 79))), some (.inl p1), some (.inl p2), some (.inl l11_3), none, none]) (st' := [.inl (dt62 92 (l11_3).toNat)]) (w' := (SH, dt62)) rfl rfl (s_iald (n := 3) (f := dt62 92) rfl (by first | exact bndc i65 c81 (by decide) (by decide) | exact bndx i65 (by decide) (by decide) | exact ⟨by fail, by fail⟩)) ?_
          have j592 : ∀ (j592_d : Nat → Nat → Int) (j592_hI : InvC j592_d) (j592_hF : Fr [90, 96, 97, 99] dt j592_d), GO (am_XX L xs sio) (d + 1) 182 87 [some (.inr (.inr (some 79))), some (.inl p1), some (.inl p2), some (.inl l11_3), none, none] [] (SH, j592_d) (fun r w2 => ∃ dt2 : Nat → Nat → Int, w2 = (SH, dt2) ∧ InvC dt2 ∧ Fr [90, 96, 97, 99] dt dt2 ∧ ((r = none ∧ True))) := by
            intro j592_d j592_hI j592_hF
            refine go_toq PM182 (k := 2) (pc' := 11) (L' := [some (.inr (.inr (some 79))), some (.inl p1), some (.inl p2), some (.inl (l11_3 + 1)), none, none]) (st' := []) (w' := (SH, j592_d)) rfl ?_
            exact GO.le (ih_loop66 (l11_3 + 1) j592_d j592_hI j592_hF (by first | exact bndp i65 (by decide) (by decide) | exact bnde i65 c81 (by decide) (by decide) | fail) (by omega)) ⟨.inl rfl, .inl rfl, .inl rfl, .inl rfl, .inl rfl, .inl rfl, trivial⟩
          refine go_ifq PM182 (k := 1) (p1 := 62) (p2 := 26) (L' := [some (.inr (.inr (some 79))), some (.inl p1), some (.inl p2), some (.inl l11_3), none, none]) (st' := []) (w' := (SH, dt62)) rfl (c_ne (a := dt62 92 (l11_3).toNat) (b := p2) (by first | exact bnd r580 (by decide) (by decide) | exact ⟨by fail, by fail⟩) (by first | exact bnd h_p2 (by decide) (by decide) | exact ⟨by fail, by fail⟩)) (fun c593 => ?_) (fun c593 => ?_)
          · skip
            replace c593 := hid c593
            refine go_toq PM182 (k := 7) (pc' := 71) (L' := [some (.inr (.inr (some 79))), some (.inl p1), some (.inl p2), some (.inl l11_3), none, none]) (st' := [.inl ((3 * p1) + l11_3), .inr (.inr (some 96))]) (w' := (SH, dt62)) rfl ?_
            have r594 : (-2147483648) ≤ dt62 96 (((3 * p1) + l11_3).toNat) ∧ dt62 96 (((3 * p1) + l11_3).toNat) ≤ 2147483647 := InvC_get hI63 96 (((3 * p1) + l11_3).toNat) rfl rfl
            refine go_smpq PM182 (L' := [some (.inr (.inr (some 79))), some (.inl p1), some (.inl p2), some (.inl l11_3), none, none]) (st' := [.inl (dt62 96 (((3 * p1) + l11_3).toNat))]) (w' := (SH, dt62)) rfl rfl (s_iald (n := 12) (f := dt62 96) rfl ⟨by omega, by omega⟩) ?_
            refine go_ifq PM182 (k := 1) (p1 := 87) (p2 := 76) (L' := [some (.inr (.inr (some 79))), some (.inl p1), some (.inl p2), some (.inl l11_3), none, none]) (st' := []) (w' := (SH, dt62)) rfl (c_ne (a := dt62 96 (((3 * p1) + l11_3).toNat)) (b := p2) (by first | exact bnd r594 (by decide) (by decide) | exact ⟨by fail, by fail⟩) (by first | exact bnd h_p2 (by decide) (by decide) | exact ⟨by fail, by fail⟩)) (fun c595 => ?_) (fun c595 => ?_)
            · skip
              replace c595 := hid c595
              exact GO.le (j592 dt62 hI63 hF64) ⟨.inl rfl, .inl rfl, .inl rfl, .inl rfl, .inl rfl, .inl rfl, trivial⟩
            · skip
              refine go_toq PM182 (k := 8) (pc' := 86) (L' := [some (.inr (.inr (some 79))), some (.inl p1), some (.inl p2), some (.inl l11_3), none, none]) (st' := [.inl (-1), .inl ((3 * p1) + l11_3), .inr (.inr (some 96))]) (w' := (SH, dt62)) rfl ?_
              have hI596 : InvC (u2 dt62 96 (((3 * p1) + l11_3).toNat) (-1)) := InvC_u2 hI63 (lo := -2147483648) (hi := 2147483647) rfl rfl rfl (by decide) (by decide)
              have hF597 : Fr [90, 96, 97, 99] dt (u2 dt62 96 (((3 * p1) + l11_3).toNat) (-1)) := Fr_u2 hF64 (by decide)
              refine go_smpq PM182 (L' := [some (.inr (.inr (some 79))), some (.inl p1), some (.inl p2), some (.inl l11_3), none, none]) (st' := []) (w' := (SH, (u2 dt62 96 (((3 * p1) + l11_3).toNat) (-1)))) rfl rfl (s_iast (n := 12) rfl ⟨by omega, by omega⟩ ⟨by decide, by decide⟩) ?_
              exact GO.le (j592 (u2 dt62 96 (((3 * p1) + l11_3).toNat) (-1)) hI596 hF597) ⟨.inl rfl, .inl rfl, .inl rfl, .inl rfl, .inl rfl, .inl rfl, trivial⟩
          · skip
            refine go_toq PM182 (k := 8) (pc' := 36) (L' := [some (.inr (.inr (some 79))), some (.inl p1), some (.inl p2), some (.inl l11_3), none, none]) (st' := [.inl p2, .inl ((3 * p1) + l11_3), .inr (.inr (some 96))]) (w' := (SH, dt62)) rfl ?_
            have hI598 : InvC (u2 dt62 96 (((3 * p1) + l11_3).toNat) p2) := InvC_u2 hI63 (lo := -2147483648) (hi := 2147483647) rfl rfl rfl (by first | exact bnd1 h_p2 (by decide) | fail) (by first | exact bnd2 h_p2 (by decide) | fail)
            have hF599 : Fr [90, 96, 97, 99] dt (u2 dt62 96 (((3 * p1) + l11_3).toNat) p2) := Fr_u2 hF64 (by decide)
            refine go_smpq PM182 (L' := [some (.inr (.inr (some 79))), some (.inl p1), some (.inl p2), some (.inl l11_3), none, none]) (st' := []) (w' := (SH, (u2 dt62 96 (((3 * p1) + l11_3).toNat) p2))) rfl rfl (s_iast (n := 12) rfl ⟨by omega, by omega⟩ (by first | exact bnd h_p2 (by decide) (by decide) | exact ⟨by fail, by fail⟩)) ?_
            refine go_toq PM182 (k := 8) (pc' := 47) (L' := [some (.inr (.inr (some 79))), some (.inl p1), some (.inl p2), some (.inl l11_3), none, none]) (st' := [.inl p2, .inl ((3 * p1) + l11_3), .inr (.inr (some 97))]) (w' := (SH, (u2 dt62 96 (((3 * p1) + l11_3).toNat) p2))) rfl ?_
            have hI600 : InvC (u2 (u2 dt62 96 (((3 * p1) + l11_3).toNat) p2) 97 (((3 * p1) + l11_3).toNat) p2) := InvC_u2 hI598 (lo := -2147483648) (hi := 2147483647) rfl rfl rfl (by first | exact bnd1 h_p2 (by decide) | fail) (by first | exact bnd2 h_p2 (by decide) | fail)
            have hF601 : Fr [90, 96, 97, 99] dt (u2 (u2 dt62 96 (((3 * p1) + l11_3).toNat) p2) 97 (((3 * p1) + l11_3).toNat) p2) := Fr_u2 hF599 (by decide)
            refine go_smpq PM182 (L' := [some (.inr (.inr (some 79))), some (.inl p1), some (.inl p2), some (.inl l11_3), none, none]) (st' := []) (w' := (SH, (u2 (u2 dt62 96 (((3 * p1) + l11_3).toNat) p2) 97 (((3 * p1) + l11_3).toNat) p2))) rfl rfl (s_iast (n := 12) rfl ⟨by omega, by omega⟩ (by first | exact bnd h_p2 (by decide) (by decide) | exact ⟨by fail, by fail⟩)) ?_
            refine go_toq PM182 (k := 8) (pc' := 58) (L' := [some (.inr (.inr (some 79))), some (.inl p1), some (.inl p2), some (.inl l11_3), none, none]) (st' := [.inl 1, .inl ((3 * p1) + l11_3), .inr (.inr (some 90))]) (w' := (SH, (u2 (u2 dt62 96 (((3 * p1) + l11_3).toNat) p2) 97 (((3 * p1) + l11_3).toNat) p2))) rfl ?_
            have hI602 : InvC (u2 (u2 (u2 dt62 96 (((3 * p1) + l11_3).toNat) p2) 97 (((3 * p1) + l11_3).toNat) p2) 90 (((3 * p1) + l11_3).toNat) 1) := InvC_u2 hI600 (lo := 0) (hi := 1) rfl rfl rfl (by decide) (by decide)
            have hF603 : Fr [90, 96, 97, 99] dt (u2 (u2 (u2 dt62 96 (((3 * p1) + l11_3).toNat) p2) 97 (((3 * p1) + l11_3).toNat) p2) 90 (((3 * p1) + l11_3).toNat) 1) := Fr_u2 hF601 (by decide)
            refine go_smpq PM182 (L' := [some (.inr (.inr (some 79))), some (.inl p1), some (.inl p2), some (.inl l11_3), none, none]) (st' := []) (w' := (SH, (u2 (u2 (u2 dt62 96 (((3 * p1) + l11_3).toNat) p2) 97 (((3 * p1) + l11_3).toNat) p2) 90 (((3 * p1) + l11_3).toNat) 1))) rfl rfl (s_zast (n := 12) rfl ⟨by omega, by omega⟩ (by omega)) ?_
            refine go_toq PM182 (k := 1) (pc' := 87) (L' := [some (.inr (.inr (some 79))), some (.inl p1), some (.inl p2), some (.inl l11_3), none, none]) (st' := []) (w' := (SH, (u2 (u2 (u2 dt62 96 (((3 * p1) + l11_3).toNat) p2) 97 (((3 * p1) + l11_3).toNat) p2) 90 (((3 * p1) + l11_3).toNat) 1))) rfl ?_
            exact GO.le (j592 (u2 (u2 (u2 dt62 96 (((3 * p1) + l11_3).toNat) p2) 97 (((3 * p1) + l11_3).toNat) p2) 90 (((3 * p1) + l11_3).toNat) 1) hI602 hF603) ⟨.inl rfl, .inl rfl, .inl rfl, .inl rfl, .inl rfl, .inl rfl, trivial⟩
    exact GO.le (loop66 _ 0 dt hI hF ⟨by decide, by decide⟩ (Nat.lt_succ_self _)) ⟨.inl rfl, .inl rfl, .inl rfl, .inl rfl, .inl rfl, .inl rfl, trivial⟩
  · skip
    refine go_retq PM182 (k := 1) (r := none) (w1 := (SH, dt)) rfl ?_
    exact ⟨dt, rfl, hI, hF, ⟨rfl, trivial⟩⟩
set_option maxRecDepth 20000 in
theorem sp_X6_acts (L : Nat) (xs : Nat → Int32) (sio : Option Nat) (d : Nat) (dt : Nat → Nat → Int) (hI : InvC dt)  (p1 : Int) (h_p1 : 0 ≤ p1 ∧ p1 ≤ 8) (p2 : Int) (h_p2 : 0 ≤ p2 ∧ p2 ≤ 3) (p3 : Int) (h_p3 : (-2147483648) ≤ p3 ∧ p3 ≤ 2147483647) (p4 : Int) (h_p4 : (-2147483648) ≤ p4 ∧ p4 ≤ 2147483647) (p5 : Int) (h_p5 : (-2147483648) ≤ p5 ∧ p5 ≤ 2147483647) (h_p0 : p1 = 8 → p2 ≤ 1) (h_p1 : (p1 = 2 ∨ p1 = 3 ∨ p1 = 4) → 0 ≤ p3 ∧ p3 ≤ 2) (h_p2 : (p1 = 2 ∨ p1 = 3 ∨ p1 = 4 ∨ p1 = 5) → 0 ≤ p4 ∧ p4 ≤ 3) (h_p3 : p1 = 4 → 0 ≤ p5 ∧ p5 ≤ 3) (h_p4 : p1 = 6 → 0 ≤ p4 ∧ p4 ≤ 1) : GO (am_XX L xs sio) (d + 3) 183 0 [some (.inr (.inr (some 79))), some (.inl p1), some (.inl p2), some (.inl p3), some (.inl p4), some (.inl p5), none] [] (SH, dt) (fun r w2 => ∃ dt2 : Nat → Nat → Int, w2 = (SH, dt2) ∧ InvC dt2 ∧ Fr [88, 89, 90, 91, 92, 93, 94, 95, 96, 97, 98, 99, 100] dt dt2 ∧ ((r = none ∧ True))) := by
  replace h_p0 := hid h_p0
  replace h_p1 := hid h_p1
  replace h_p2 := hid h_p2
  replace h_p3 := hid h_p3
  replace h_p4 := hid h_p4
  have hF : Fr [88, 89, 90, 91, 92, 93, 94, 95, 96, 97, 98, 99, 100] dt dt := Fr_refl
  have j61 : ∀ (j61_d : Nat → Nat → Int) (j61_hI : InvC j61_d) (j61_hF : Fr [88, 89, 90, 91, 92, 93, 94, 95, 96, 97, 98, 99, 100] dt j61_d), GO (am_XX L xs sio) (d + 3) 183 181 [some (.inr (.inr (some 79))), none, none, none, none, none, none] [] (SH, j61_d) (fun r w2 => ∃ dt2 : Nat → Nat → Int, w2 = (SH, dt2) ∧ InvC dt2 ∧ Fr [88, 89, 90, 91, 92, 93, 94, 95, 96, 97, 98, 99, 100] dt dt2 ∧ ((r = none ∧ True))) := by
    intro j61_d j61_hI j61_hF
    refine go_retq PM183 (k := 0) (r := none) (w1 := (SH, j61_d)) rfl ?_
    exact ⟨j61_d, rfl, j61_hI, j61_hF, ⟨rfl, trivial⟩⟩
  have r62 := wr_RR p1
  refine go_toq PM183 (k := 1) (pc' := 1) (L' := [some (.inr (.inr (some 79))), some (.inl p1), some (.inl p2), some (.inl p3), some (.inl p4), some (.inl p5), none]) (st' := [.inl p1]) (w' := (SH, dt)) rfl ?_
  have e64 : wr p1 = p1 := wr_R ⟨by omega, by omega⟩
  by_cases c63 : wr p1 < 0 ∨ 7 < wr p1
  · refine go_swoq PM183 (p1 := 148) (lo := 0) (hi := 7) rfl rfl c63 ?_
    refine go_toq PM183 (k := 2) (pc' := 151) (L' := [some (.inr (.inr (some 79))), some (.inl p1), some (.inl p2), some (.inl p3), some (.inl p4), some (.inl p5), some (.inl 0)]) (st' := []) (w' := (SH, dt)) rfl ?_
    have loop89 : ∀ (k_ : Nat) (l151_6 : Int) (dt85 : Nat → Nat → Int) (hI86 : InvC dt85) (hF87 : Fr [88, 89, 90, 91, 92, 93, 94, 95, 96, 97, 98, 99, 100] dt dt85) (i88 : 0 ≤ l151_6 ∧ l151_6 ≤ 3), (4 - l151_6).toNat < k_ → GO (am_XX L xs sio) (d + 3) 183 151 [some (.inr (.inr (some 79))), none, some (.inl p2), none, none, none, some (.inl l151_6)] [] (SH, dt85) (fun r w2 => ∃ dt2 : Nat → Nat → Int, w2 = (SH, dt2) ∧ InvC dt2 ∧ Fr [88, 89, 90, 91, 92, 93, 94, 95, 96, 97, 98, 99, 100] dt dt2 ∧ ((r = none ∧ True))) := by
      intro k_
      induction k_ with
      | zero => intro l151_6 dt85 hI86 hF87 i88 hm; exact absurd hm (Nat.not_lt_zero _)
      | succ k_ ih_loop89 =>
        intro l151_6 dt85 hI86 hF87 i88 hm
        refine go_ifq PM183 (k := 2) (p1 := 181) (p2 := 157) (L' := [some (.inr (.inr (some 79))), none, some (.inl p2), none, none, none, some (.inl l151_6)]) (st' := []) (w' := (SH, dt85)) rfl (c_ge (a := l151_6) (b := 3) (by first | exact bnd i88 (by decide) (by decide) | exact ⟨by fail, by fail⟩) ⟨by decide, by decide⟩) (fun c90 => ?_) (fun c90 => ?_)
        · skip
          exact GO.le (j61 dt85 hI86 hF87) ⟨.inl rfl, .inl rfl, .inr ⟨rfl, trivial⟩, .inl rfl, .inl rfl, .inl rfl, .inr ⟨rfl, trivial⟩, trivial⟩
        · skip
          refine go_toq PM183 (k := 10) (pc' := 173) (L' := [some (.inr (.inr (some 79))), none, some (.inl p2), none, none, none, some (.inl l151_6)]) (st' := [.inl l151_6, .inr (.inr (some 92)), .inl ((3 * p2) + l151_6), .inr (.inr (some 100))]) (w' := (SH, dt85)) rfl ?_
          have r91 : (-2147483648) ≤ dt85 92 (l151_6).toNat ∧ dt85 92 (l151_6).toNat ≤ 2147483647 := InvC_get hI86 92 (l151_6).toNat rfl rfl
          refine go_smpq PM183 (L' := [some (.inr (.inr (some 79))), none, some (.inl p2), none, none, none, some (.inl l151_6)]) (st' := [.inl (dt85 92 (l151_6).toNat), .inl ((3 * p2) + l151_6), .inr (.inr (some 100))]) (w' := (SH, dt85)) rfl rfl (s_iald (n := 3) (f := dt85 92) rfl (by first | exact bndc i88 c90 (by decide) (by decide) | exact bndx i88 (by decide) (by decide) | exact ⟨by fail, by fail⟩)) ?_
          have hI92 : InvC (u2 dt85 100 (((3 * p2) + l151_6).toNat) (dt85 92 (l151_6).toNat)) := InvC_u2 hI86 (lo := -2147483648) (hi := 2147483647) rfl rfl rfl (by first | exact bnd1 r91 (by decide) | fail) (by first | exact bnd2 r91 (by decide) | fail)
          have hF93 : Fr [88, 89, 90, 91, 92, 93, 94, 95, 96, 97, 98, 99, 100] dt (u2 dt85 100 (((3 * p2) + l151_6).toNat) (dt85 92 (l151_6).toNat)) := Fr_u2 hF87 (by decide)
          refine go_smpq PM183 (L' := [some (.inr (.inr (some 79))), none, some (.inl p2), none, none, none, some (.inl l151_6)]) (st' := []) (w' := (SH, (u2 dt85 100 (((3 * p2) + l151_6).toNat) (dt85 92 (l151_6).toNat)))) rfl rfl (s_iast (n := 6) rfl ⟨by omega, by (have z_ := unhid h_p0; omega)⟩ (by first | exact bnd r91 (by decide) (by decide) | exact ⟨by fail, by fail⟩)) ?_
          refine go_toq PM183 (k := 2) (pc' := 151) (L' := [some (.inr (.inr (some 79))), none, some (.inl p2), none, none, none, some (.inl (l151_6 + 1))]) (st' := []) (w' := (SH, (u2 dt85 100 (((3 * p2) + l151_6).toNat) (dt85 92 (l151_6).toNat)))) rfl ?_
          exact GO.le (ih_loop89 (l151_6 + 1) (u2 dt85 100 (((3 * p2) + l151_6).toNat) (dt85 92 (l151_6).toNat)) hI92 hF93 (by first | exact bndp i88 (by decide) (by decide) | exact bnde i88 c90 (by decide) (by decide) | fail) (by omega)) ⟨.inl rfl, .inl rfl, .inl rfl, .inl rfl, .inl rfl, .inl rfl, .inl rfl, trivial⟩
    exact GO.le (loop89 _ 0 dt hI hF ⟨by decide, by decide⟩ (Nat.lt_succ_self _)) ⟨.inl rfl, .inr ⟨rfl, trivial⟩, .inl rfl, .inr ⟨rfl, trivial⟩, .inr ⟨rfl, trivial⟩, .inr ⟨rfl, trivial⟩, .inl rfl, trivial⟩
  · have c94 : wr p1 = 0 ∨ wr p1 = 1 ∨ wr p1 = 2 ∨ wr p1 = 3 ∨ wr p1 = 4 ∨ wr p1 = 5 ∨ wr p1 = 6 ∨ wr p1 = 7 := by omega
    rcases c94 with c94 | c94 | c94 | c94 | c94 | c94 | c94 | c94
    · refine go_swiq PM183 (v := 0) (p1 := 48) (lo := 0) (hi := 7) rfl c94 (by decide) rfl ?_
      refine go_toq PM183 (k := 4) (pc' := 54) (L' := [some (.inr (.inr (some 79))), some (.inl p1), some (.inl p2), some (.inl p3), some (.inl p4), some (.inl p5), none]) (st' := [.inl 1, .inl p2, .inr (.inr (some 88))]) (w' := (SH, dt)) rfl ?_
      have hI95 : InvC (u2 dt 88 (p2).toNat 1) := InvC_u2 hI (lo := 0) (hi := 1) rfl rfl rfl (by decide) (by decide)
      have hF96 : Fr [88, 89, 90, 91, 92, 93, 94, 95, 96, 97, 98, 99, 100] dt (u2 dt 88 (p2).toNat 1) := Fr_u2 hF (by decide)
      refine go_smpq PM183 (L' := [some (.inr (.inr (some 79))), some (.inl p1), some (.inl p2), some (.inl p3), some (.inl p4), some (.inl p5), none]) (st' := []) (w' := (SH, (u2 dt 88 (p2).toNat 1))) rfl rfl (s_zast (n := 4) rfl (by first | exact bndx h_p2 (by decide) (by decide) | exact ⟨by omega, by omega⟩) (by omega)) ?_
      refine go_toq PM183 (k := 1) (pc' := 181) (L' := [some (.inr (.inr (some 79))), some (.inl p1), some (.inl p2), some (.inl p3), some (.inl p4), some (.inl p5), none]) (st' := []) (w' := (SH, (u2 dt 88 (p2).toNat 1))) rfl ?_
      exact GO.le (j61 (u2 dt 88 (p2).toNat 1) hI95 hF96) ⟨.inl rfl, .inr ⟨rfl, trivial⟩, .inr ⟨rfl, trivial⟩, .inr ⟨rfl, trivial⟩, .inr ⟨rfl, trivial⟩, .inr ⟨rfl, trivial⟩, .inl rfl, trivial⟩
    · refine go_swiq PM183 (v := 1) (p1 := 58) (lo := 0) (hi := 7) rfl c94 (by decide) rfl ?_
      refine go_toq PM183 (k := 4) (pc' := 64) (L' := [some (.inr (.inr (some 79))), some (.inl p1), some (.inl p2), some (.inl p3), some (.inl p4), some (.inl p5), none]) (st' := [.inl 0, .inl p2, .inr (.inr (some 88))]) (w' := (SH, dt)) rfl ?_
      have hI97 : InvC (u2 dt 88 (p2).toNat 0) := InvC_u2 hI (lo := 0) (hi := 1) rfl rfl rfl (by decide) (by decide)
      have hF98 : Fr [88, 89, 90, 91, 92, 93, 94, 95, 96, 97, 98, 99, 100] dt (u2 dt 88 (p2).toNat 0) := Fr_u2 hF (by decide)
      refine go_smpq PM183 (L' := [some (.inr (.inr (some 79))), some (.inl p1), some (.inl p2), some (.inl p3), some (.inl p4), some (.inl p5), none]) (st' := []) (w' := (SH, (u2 dt 88 (p2).toNat 0))) rfl rfl (s_zast (n := 4) rfl (by first | exact bndx h_p2 (by decide) (by decide) | exact ⟨by omega, by omega⟩) (by omega)) ?_
      refine go_toq PM183 (k := 1) (pc' := 181) (L' := [some (.inr (.inr (some 79))), some (.inl p1), some (.inl p2), some (.inl p3), some (.inl p4), some (.inl p5), none]) (st' := []) (w' := (SH, (u2 dt 88 (p2).toNat 0))) rfl ?_
      exact GO.le (j61 (u2 dt 88 (p2).toNat 0) hI97 hF98) ⟨.inl rfl, .inr ⟨rfl, trivial⟩, .inr ⟨rfl, trivial⟩, .inr ⟨rfl, trivial⟩, .inr ⟨rfl, trivial⟩, .inr ⟨rfl, trivial⟩, .inl rfl, trivial⟩
    · refine go_swiq PM183 (v := 2) (p1 := 68) (lo := 0) (hi := 7) rfl c94 (by decide) rfl ?_
      refine go_toq PM183 (k := 5) (pc' := 74) (L' := [some (.inr (.inr (some 79))), some (.inl p1), some (.inl p2), some (.inl p3), some (.inl p4), some (.inl p5), none]) (st' := [.inl 1, .inl p4, .inl p3, .inl p2, .inr (.inr (some 79))]) (w' := (SH, dt)) rfl ?_
      refine go_callq PM183 PM180 (Q' := _) rfl rfl rfl rfl (sp_X6_moves L xs sio (d + 0) dt hI  p2 (by first | exact h_p2 | exact bnd h_p2 (by decide) (by decide) | exact ⟨by omega, by omega⟩) p3 (by first | exact h_p3 | exact bnd h_p3 (by decide) (by decide) | exact ⟨by (have z_ := unhid h_p1; omega), by (have z_ := unhid h_p1; omega)⟩) p4 (by first | exact h_p4 | exact bnd h_p4 (by decide) (by decide) | exact ⟨by (have z_ := unhid h_p2; omega), by (have z_ := unhid h_p2; omega)⟩) 1 ⟨by decide, by decide⟩ ) ?_
      rintro _ _ ⟨dt100, rfl, hI101, hF102, h99⟩
      refine ⟨rfl, ?_⟩
      have hF103 : Fr [88, 89, 90, 91, 92, 93, 94, 95, 96, 97, 98, 99, 100] dt dt100 := Fr_tr hF hF102 (by decide)
      rcases h99 with ⟨rfl, h99⟩
      refine go_toq PM183 (k := 1) (pc' := 181) (L' := [some (.inr (.inr (some 79))), some (.inl p1), some (.inl p2), some (.inl p3), some (.inl p4), some (.inl p5), none]) (st' := []) (w' := (SH, dt100)) rfl ?_
      exact GO.le (j61 dt100 hI101 hF103) ⟨.inl rfl, .inr ⟨rfl, trivial⟩, .inr ⟨rfl, trivial⟩, .inr ⟨rfl, trivial⟩, .inr ⟨rfl, trivial⟩, .inr ⟨rfl, trivial⟩, .inl rfl, trivial⟩
    · refine go_swiq PM183 (v := 3) (p1 := 80) (lo := 0) (hi := 7) rfl c94 (by decide) rfl ?_
      refine go_toq PM183 (k := 5) (pc' := 86) (L' := [some (.inr (.inr (some 79))), some (.inl p1), some (.inl p2), some (.inl p3), some (.inl p4), some (.inl p5), none]) (st' := [.inl 0, .inl p4, .inl p3, .inl p2, .inr (.inr (some 79))]) (w' := (SH, dt)) rfl ?_
      refine go_callq PM183 PM180 (Q' := _) rfl rfl rfl rfl (sp_X6_moves L xs sio (d + 0) dt hI  p2 (by first | exact h_p2 | exact bnd h_p2 (by decide) (by decide) | exact ⟨by omega, by omega⟩) p3 (by first | exact h_p3 | exact bnd h_p3 (by decide) (by decide) | exact ⟨by (have z_ := unhid h_p1; omega), by (have z_ := unhid h_p1; omega)⟩) p4 (by first | exact h_p4 | exact bnd h_p4 (by decide) (by decide) | exact ⟨by (have z_ := unhid h_p2; omega), by (have z_ := unhid h_p2; omega)⟩) 0 ⟨by decide, by decide⟩ ) ?_
      rintro _ _ ⟨dt105, rfl, hI106, hF107, h104⟩
      refine ⟨rfl, ?_⟩
      have hF108 : Fr [88, 89, 90, 91, 92, 93, 94, 95, 96, 97, 98, 99, 100] dt dt105 := Fr_tr hF hF107 (by decide)
      rcases h104 with ⟨rfl, h104⟩
      refine go_toq PM183 (k := 1) (pc' := 181) (L' := [some (.inr (.inr (some 79))), some (.inl p1), some (.inl p2), some (.inl p3), some (.inl p4), some (.inl p5), none]) (st' := []) (w' := (SH, dt105)) rfl ?_
      exact GO.le (j61 dt105 hI106 hF108) ⟨.inl rfl, .inr ⟨rfl, trivial⟩, .inr ⟨rfl, trivial⟩, .inr ⟨rfl, trivial⟩, .inr ⟨rfl, trivial⟩, .inr ⟨rfl, trivial⟩, .inl rfl, trivial⟩
    · refine go_swiq PM183 (v := 4) (p1 := 92) (lo := 0) (hi := 7) rfl c94 (by decide) rfl ?_
      refine go_toq PM183 (k := 5) (pc' := 99) (L' := [some (.inr (.inr (some 79))), some (.inl p1), some (.inl p2), some (.inl p3), some (.inl p4), some (.inl p5), none]) (st' := [.inl p4, .inl p3, .inl p5, .inl p2, .inr (.inr (some 79))]) (w' := (SH, dt)) rfl ?_
      refine go_callq PM183 PM181 (Q' := _) rfl rfl rfl rfl (sp_X6_tells L xs sio (d + 2) dt hI  p2 (by first | exact h_p2 | exact bnd h_p2 (by decide) (by decide) | exact ⟨by omega, by omega⟩) p5 (by first | exact h_p5 | exact bnd h_p5 (by decide) (by decide) | exact ⟨by (have z_ := unhid h_p3; omega), by (have z_ := unhid h_p3; omega)⟩) p3 (by first | exact h_p3 | exact bnd h_p3 (by decide) (by decide) | exact ⟨by (have z_ := unhid h_p1; omega), by (have z_ := unhid h_p1; omega)⟩) p4 (by first | exact h_p4 | exact bnd h_p4 (by decide) (by decide) | exact ⟨by (have z_ := unhid h_p2; omega), by (have z_ := unhid h_p2; omega)⟩) ) ?_
      rintro _ _ ⟨dt110, rfl, hI111, hF112, h109⟩
      refine ⟨rfl, ?_⟩
      have hF113 : Fr [88, 89, 90, 91, 92, 93, 94, 95, 96, 97, 98, 99, 100] dt dt110 := Fr_tr hF hF112 (by decide)
      rcases h109 with ⟨rfl, h109⟩
      refine go_toq PM183 (k := 1) (pc' := 181) (L' := [some (.inr (.inr (some 79))), some (.inl p1), some (.inl p2), some (.inl p3), some (.inl p4), some (.inl p5), none]) (st' := []) (w' := (SH, dt110)) rfl ?_
      exact GO.le (j61 dt110 hI111 hF113) ⟨.inl rfl, .inr ⟨rfl, trivial⟩, .inr ⟨rfl, trivial⟩, .inr ⟨rfl, trivial⟩, .inr ⟨rfl, trivial⟩, .inr ⟨rfl, trivial⟩, .inl rfl, trivial⟩
    · refine go_swiq PM183 (v := 5) (p1 := 105) (lo := 0) (hi := 7) rfl c94 (by decide) rfl ?_
      refine go_toq PM183 (k := 3) (pc' := 109) (L' := [some (.inr (.inr (some 79))), some (.inl p1), some (.inl p2), some (.inl p3), some (.inl p4), some (.inl p5), none]) (st' := [.inl p4, .inl p2, .inr (.inr (some 79))]) (w' := (SH, dt)) rfl ?_
      refine go_callq PM183 PM182 (Q' := _) rfl rfl rfl rfl (sp_X6_lifts L xs sio (d + 1) dt hI  p2 (by first | exact h_p2 | exact bnd h_p2 (by decide) (by decide) | exact ⟨by omega, by omega⟩) p4 (by first | exact h_p4 | exact bnd h_p4 (by decide) (by decide) | exact ⟨by (have z_ := unhid h_p2; omega), by (have z_ := unhid h_p2; omega)⟩) ) ?_
      rintro _ _ ⟨dt115, rfl, hI116, hF117, h114⟩
      refine ⟨rfl, ?_⟩
      have hF118 : Fr [88, 89, 90, 91, 92, 93, 94, 95, 96, 97, 98, 99, 100] dt dt115 := Fr_tr hF hF117 (by decide)
      rcases h114 with ⟨rfl, h114⟩
      refine go_toq PM183 (k := 1) (pc' := 181) (L' := [some (.inr (.inr (some 79))), some (.inl p1), some (.inl p2), some (.inl p3), some (.inl p4), some (.inl p5), none]) (st' := []) (w' := (SH, dt115)) rfl ?_
      exact GO.le (j61 dt115 hI116 hF118) ⟨.inl rfl, .inr ⟨rfl, trivial⟩, .inr ⟨rfl, trivial⟩, .inr ⟨rfl, trivial⟩, .inr ⟨rfl, trivial⟩, .inr ⟨rfl, trivial⟩, .inl rfl, trivial⟩
    · refine go_swiq PM183 (v := 6) (p1 := 115) (lo := 0) (hi := 7) rfl c94 (by decide) rfl ?_
      refine go_toq PM183 (k := 4) (pc' := 122) (L' := [some (.inr (.inr (some 79))), some (.inl p1), some (.inl p2), some (.inl p3), some (.inl p4), some (.inl p5), none]) (st' := [.inl p4, .inl p2, .inr (.inr (some 91))]) (w' := (SH, dt)) rfl ?_
      have hI119 : InvC (u2 dt 91 (p2).toNat p4) := InvC_u2 hI (lo := -2147483648) (hi := 2147483647) rfl rfl rfl (by first | exact bnd1 h_p4 (by decide) | omega) (by first | exact bnd2 h_p4 (by decide) | omega)
      have hF120 : Fr [88, 89, 90, 91, 92, 93, 94, 95, 96, 97, 98, 99, 100] dt (u2 dt 91 (p2).toNat p4) := Fr_u2 hF (by decide)
      refine go_smpq PM183 (L' := [some (.inr (.inr (some 79))), some (.inl p1), some (.inl p2), some (.inl p3), some (.inl p4), some (.inl p5), none]) (st' := []) (w' := (SH, (u2 dt 91 (p2).toNat p4))) rfl rfl (s_iast (n := 4) rfl (by first | exact bndx h_p2 (by decide) (by decide) | exact ⟨by omega, by omega⟩) (by first | exact bnd h_p4 (by decide) (by decide) | exact ⟨by omega, by omega⟩)) ?_
      refine go_toq PM183 (k := 8) (pc' := 134) (L' := [some (.inr (.inr (some 79))), some (.inl p1), some (.inl p2), some (.inl p3), some (.inl p4), some (.inl p5), none]) (st' := [.inl 1, .inl ((2 * p2) + p4), .inr (.inr (some 89))]) (w' := (SH, (u2 dt 91 (p2).toNat p4))) rfl ?_
      have hI121 : InvC (u2 (u2 dt 91 (p2).toNat p4) 89 (((2 * p2) + p4).toNat) 1) := InvC_u2 hI119 (lo := 0) (hi := 1) rfl rfl rfl (by decide) (by decide)
      have hF122 : Fr [88, 89, 90, 91, 92, 93, 94, 95, 96, 97, 98, 99, 100] dt (u2 (u2 dt 91 (p2).toNat p4) 89 (((2 * p2) + p4).toNat) 1) := Fr_u2 hF120 (by decide)
      refine go_smpq PM183 (L' := [some (.inr (.inr (some 79))), some (.inl p1), some (.inl p2), some (.inl p3), some (.inl p4), some (.inl p5), none]) (st' := []) (w' := (SH, (u2 (u2 dt 91 (p2).toNat p4) 89 (((2 * p2) + p4).toNat) 1))) rfl rfl (s_zast (n := 8) rfl ⟨by (have z_ := unhid h_p4; omega), by (have z_ := unhid h_p4; omega)⟩ (by omega)) ?_
      refine go_toq PM183 (k := 1) (pc' := 181) (L' := [some (.inr (.inr (some 79))), some (.inl p1), some (.inl p2), some (.inl p3), some (.inl p4), some (.inl p5), none]) (st' := []) (w' := (SH, (u2 (u2 dt 91 (p2).toNat p4) 89 (((2 * p2) + p4).toNat) 1))) rfl ?_
      exact GO.le (j61 (u2 (u2 dt 91 (p2).toNat p4) 89 (((2 * p2) + p4).toNat) 1) hI121 hF122) ⟨.inl rfl, .inr ⟨rfl, trivial⟩, .inr ⟨rfl, trivial⟩, .inr ⟨rfl, trivial⟩, .inr ⟨rfl, trivial⟩, .inr ⟨rfl, trivial⟩, .inl rfl, trivial⟩
    · refine go_swiq PM183 (v := 7) (p1 := 138) (lo := 0) (hi := 7) rfl c94 (by decide) rfl ?_
      refine go_toq PM183 (k := 4) (pc' := 144) (L' := [some (.inr (.inr (some 79))), some (.inl p1), some (.inl p2), some (.inl p3), some (.inl p4), some (.inl p5), none]) (st' := [.inl (-1), .inl p2, .inr (.inr (some 91))]) (w' := (SH, dt)) rfl ?_
      have hI123 : InvC (u2 dt 91 (p2).toNat (-1)) := InvC_u2 hI (lo := -2147483648) (hi := 2147483647) rfl rfl rfl (by decide) (by decide)
      have hF124 : Fr [88, 89, 90, 91, 92, 93, 94, 95, 96, 97, 98, 99, 100] dt (u2 dt 91 (p2).toNat (-1)) := Fr_u2 hF (by decide)
      refine go_smpq PM183 (L' := [some (.inr (.inr (some 79))), some (.inl p1), some (.inl p2), some (.inl p3), some (.inl p4), some (.inl p5), none]) (st' := []) (w' := (SH, (u2 dt 91 (p2).toNat (-1)))) rfl rfl (s_iast (n := 4) rfl (by first | exact bndx h_p2 (by decide) (by decide) | exact ⟨by omega, by omega⟩) ⟨by decide, by decide⟩) ?_
      refine go_toq PM183 (k := 1) (pc' := 181) (L' := [some (.inr (.inr (some 79))), some (.inl p1), some (.inl p2), some (.inl p3), some (.inl p4), some (.inl p5), none]) (st' := []) (w' := (SH, (u2 dt 91 (p2).toNat (-1)))) rfl ?_
      exact GO.le (j61 (u2 dt 91 (p2).toNat (-1)) hI123 hF124) ⟨.inl rfl, .inr ⟨rfl, trivial⟩, .inr ⟨rfl, trivial⟩, .inr ⟨rfl, trivial⟩, .inr ⟨rfl, trivial⟩, .inr ⟨rfl, trivial⟩, .inl rfl, trivial⟩
set_option maxRecDepth 20000 in
theorem sp_X6_goes (L : Nat) (xs : Nat → Int32) (sio : Option Nat) (d : Nat) (dt : Nat → Nat → Int) (hI : InvC dt) (hM : MW (dt 80))  (p1 : Int) (h_p1 : 0 ≤ p1 ∧ p1 ≤ 7)  : GO (am_XX L xs sio) (d + 4) 184 0 [some (.inr (.inr (some 79))), some (.inl p1), none, none] [] (SH, dt) (fun r w2 => ∃ dt2 : Nat → Nat → Int, w2 = (SH, dt2) ∧ InvC dt2 ∧ Fr [88, 89, 90, 91, 92, 93, 94, 95, 96, 97, 98, 99, 100] dt dt2 ∧ ((r = none ∧ True))) := by
  have hF : Fr [88, 89, 90, 91, 92, 93, 94, 95, 96, 97, 98, 99, 100] dt dt := Fr_refl
  refine go_toq PM184 (k := 1) (pc' := 1) (L' := [some (.inr (.inr (some 79))), some (.inl p1), none, none]) (st' := [.inr (.inr (some 79))]) (w' := (SH, dt)) rfl ?_
  refine go_callq PM184 PM177 (Q' := _) rfl rfl rfl rfl (sp_X6_begins L xs sio (d + 3) dt hI   ) ?_
  rintro _ _ ⟨dt2, rfl, hI3, hF4, h1⟩
  refine ⟨rfl, ?_⟩
  have hF5 : Fr [88, 89, 90, 91, 92, 93, 94, 95, 96, 97, 98, 99, 100] dt dt2 := Fr_tr hF hF4 (by decide)
  rcases h1 with ⟨rfl, h1⟩
  refine go_toq PM184 (k := 2) (pc' := 6) (L' := [some (.inr (.inr (some 79))), some (.inl p1), some (.inl 0), none]) (st' := []) (w' := (SH, dt2)) rfl ?_
  have loop130 : ∀ (k_ : Nat) (l6_2 : Int) (dt126 : Nat → Nat → Int) (hI127 : InvC dt126) (hF128 : Fr [88, 89, 90, 91, 92, 93, 94, 95, 96, 97, 98, 99, 100] dt dt126) (i129 : 0 ≤ l6_2 ∧ l6_2 ≤ 24), (25 - l6_2).toNat < k_ → GO (am_XX L xs sio) (d + 4) 184 6 [some (.inr (.inr (some 79))), some (.inl p1), some (.inl l6_2), none] [] (SH, dt126) (fun r w2 => ∃ dt2 : Nat → Nat → Int, w2 = (SH, dt2) ∧ InvC dt2 ∧ Fr [88, 89, 90, 91, 92, 93, 94, 95, 96, 97, 98, 99, 100] dt dt2 ∧ ((r = none ∧ True))) := by
    intro k_
    induction k_ with
    | zero => intro l6_2 dt126 hI127 hF128 i129 hm; exact absurd hm (Nat.not_lt_zero _)
    | succ k_ ih_loop130 =>
      intro l6_2 dt126 hI127 hF128 i129 hm
      refine go_toq PM184 (k := 6) (pc' := 15) (L' := [some (.inr (.inr (some 79))), some (.inl p1), some (.inl l6_2), none]) (st' := [.inl (6 + p1), .inr (.inr (some 80)), .inl l6_2]) (w' := (SH, dt126)) rfl ?_
      have r131 : (-2147483648) ≤ dt 80 ((6 + p1).toNat) ∧ dt 80 ((6 + p1).toNat) ≤ 2147483647 := InvC_get hI 80 ((6 + p1).toNat) rfl rfl
      have r132 := MW_am hM (p1) ⟨by omega, by omega⟩
      refine go_smpq PM184 (L' := [some (.inr (.inr (some 79))), some (.inl p1), some (.inl l6_2), none]) (st' := [.inl (dt 80 ((6 + p1).toNat)), .inl l6_2]) (w' := (SH, dt126)) rfl rfl (s_ev (s_iald (n := 7460) (f := dt126 80) rfl ⟨by omega, by omega⟩) (hF128 80 (by decide) _)) ?_
      refine go_ifq PM184 (k := 0) (p1 := 79) (p2 := 19) (L' := [some (.inr (.inr (some 79))), some (.inl p1), some (.inl l6_2), none]) (st' := []) (w' := (SH, dt126)) rfl (c_ge (a := l6_2) (b := dt 80 ((6 + p1).toNat)) (by first | exact bnd i129 (by decide) (by decide) | exact ⟨by fail, by fail⟩) (by first | exact bnd r131 (by decide) (by decide) | exact ⟨by fail, by fail⟩)) (fun c145 => ?_) (fun c145 => ?_)
      · skip
        refine go_retq PM184 (k := 0) (r := none) (w1 := (SH, dt126)) rfl ?_
        exact ⟨dt126, rfl, hI127, hF128, ⟨rfl, trivial⟩⟩
      · skip
        refine go_toq PM184 (k := 14) (pc' := 37) (L' := [some (.inr (.inr (some 79))), some (.inl p1), some (.inl l6_2), some (.inl (14 + (5 * ((24 * p1) + l6_2))))]) (st' := [.inl (14 + (5 * ((24 * p1) + l6_2))), .inr (.inr (some 80)), .inr (.inr (some 79))]) (w' := (SH, dt126)) rfl ?_
        have r146 : (-2147483648) ≤ dt 80 ((14 + (5 * ((24 * p1) + l6_2))).toNat) ∧ dt 80 ((14 + (5 * ((24 * p1) + l6_2))).toNat) ≤ 2147483647 := InvC_get hI 80 ((14 + (5 * ((24 * p1) + l6_2))).toNat) rfl rfl
        have r147 := MW_a hM (((24 * p1) + l6_2)) ⟨by omega, by omega⟩
        refine go_smpq PM184 (L' := [some (.inr (.inr (some 79))), some (.inl p1), some (.inl l6_2), some (.inl (14 + (5 * ((24 * p1) + l6_2))))]) (st' := [.inl (dt 80 ((14 + (5 * ((24 * p1) + l6_2))).toNat)), .inr (.inr (some 79))]) (w' := (SH, dt126)) rfl rfl (s_ev (s_iald (n := 7460) (f := dt126 80) rfl ⟨by omega, by omega⟩) (hF128 80 (by decide) _)) ?_
        refine go_toq PM184 (k := 5) (pc' := 45) (L' := [some (.inr (.inr (some 79))), some (.inl p1), some (.inl l6_2), some (.inl (14 + (5 * ((24 * p1) + l6_2))))]) (st' := [.inl ((14 + (5 * ((24 * p1) + l6_2))) + 1), .inr (.inr (some 80)), .inl (dt 80 ((14 + (5 * ((24 * p1) + l6_2))).toNat)), .inr (.inr (some 79))]) (w' := (SH, dt126)) rfl ?_
        have r148 : (-2147483648) ≤ dt 80 (((14 + (5 * ((24 * p1) + l6_2))) + 1).toNat) ∧ dt 80 (((14 + (5 * ((24 * p1) + l6_2))) + 1).toNat) ≤ 2147483647 := InvC_get hI 80 (((14 + (5 * ((24 * p1) + l6_2))) + 1).toNat) rfl rfl
        refine go_smpq PM184 (L' := [some (.inr (.inr (some 79))), some (.inl p1), some (.inl l6_2), some (.inl (14 + (5 * ((24 * p1) + l6_2))))]) (st' := [.inl (dt 80 (((14 + (5 * ((24 * p1) + l6_2))) + 1).toNat)), .inl (dt 80 ((14 + (5 * ((24 * p1) + l6_2))).toNat)), .inr (.inr (some 79))]) (w' := (SH, dt126)) rfl rfl (s_ev (s_iald (n := 7460) (f := dt126 80) rfl ⟨by omega, by omega⟩) (hF128 80 (by decide) _)) ?_
        refine go_toq PM184 (k := 5) (pc' := 53) (L' := [some (.inr (.inr (some 79))), some (.inl p1), some (.inl l6_2), some (.inl (14 + (5 * ((24 * p1) + l6_2))))]) (st' := [.inl ((14 + (5 * ((24 * p1) + l6_2))) + 2), .inr (.inr (some 80)), .inl (dt 80 (((14 + (5 * ((24 * p1) + l6_2))) + 1).toNat)), .inl (dt 80 ((14 + (5 * ((24 * p1) + l6_2))).toNat)), .inr (.inr (some 79))]) (w' := (SH, dt126)) rfl ?_
        have r149 : (-2147483648) ≤ dt 80 (((14 + (5 * ((24 * p1) + l6_2))) + 2).toNat) ∧ dt 80 (((14 + (5 * ((24 * p1) + l6_2))) + 2).toNat) ≤ 2147483647 := InvC_get hI 80 (((14 + (5 * ((24 * p1) + l6_2))) + 2).toNat) rfl rfl
        refine go_smpq PM184 (L' := [some (.inr (.inr (some 79))), some (.inl p1), some (.inl l6_2), some (.inl (14 + (5 * ((24 * p1) + l6_2))))]) (st' := [.inl (dt 80 (((14 + (5 * ((24 * p1) + l6_2))) + 2).toNat)), .inl (dt 80 (((14 + (5 * ((24 * p1) + l6_2))) + 1).toNat)), .inl (dt 80 ((14 + (5 * ((24 * p1) + l6_2))).toNat)), .inr (.inr (some 79))]) (w' := (SH, dt126)) rfl rfl (s_ev (s_iald (n := 7460) (f := dt126 80) rfl ⟨by omega, by omega⟩) (hF128 80 (by decide) _)) ?_
        refine go_toq PM184 (k := 5) (pc' := 61) (L' := [some (.inr (.inr (some 79))), some (.inl p1), some (.inl l6_2), some (.inl (14 + (5 * ((24 * p1) + l6_2))))]) (st' := [.inl ((14 + (5 * ((24 * p1) + l6_2))) + 3), .inr (.inr (some 80)), .inl (dt 80 (((14 + (5 * ((24 * p1) + l6_2))) + 2).toNat)), .inl (dt 80 (((14 + (5 * ((24 * p1) + l6_2))) + 1).toNat)), .inl (dt 80 ((14 + (5 * ((24 * p1) + l6_2))).toNat)), .inr (.inr (some 79))]) (w' := (SH, dt126)) rfl ?_
        have r150 : (-2147483648) ≤ dt 80 (((14 + (5 * ((24 * p1) + l6_2))) + 3).toNat) ∧ dt 80 (((14 + (5 * ((24 * p1) + l6_2))) + 3).toNat) ≤ 2147483647 := InvC_get hI 80 (((14 + (5 * ((24 * p1) + l6_2))) + 3).toNat) rfl rfl
        refine go_smpq PM184 (L' := [some (.inr (.inr (some 79))), some (.inl p1), some (.inl l6_2), some (.inl (14 + (5 * ((24 * p1) + l6_2))))]) (st' := [.inl (dt 80 (((14 + (5 * ((24 * p1) + l6_2))) + 3).toNat)), .inl (dt 80 (((14 + (5 * ((24 * p1) + l6_2))) + 2).toNat)), .inl (dt 80 (((14 + (5 * ((24 * p1) + l6_2))) + 1).toNat)), .inl (dt 80 ((14 + (5 * ((24 * p1) + l6_2))).toNat)), .inr (.inr (some 79))]) (w' := (SH, dt126)) rfl rfl (s_ev (s_iald (n := 7460) (f := dt126 80) rfl ⟨by omega, by omega⟩) (hF128 80 (by decide) _)) ?_
        refine go_toq PM184 (k := 5) (pc' := 69) (L' := [some (.inr (.inr (some 79))), some (.inl p1), some (.inl l6_2), some (.inl (14 + (5 * ((24 * p1) + l6_2))))]) (st' := [.inl ((14 + (5 * ((24 * p1) + l6_2))) + 4), .inr (.inr (some 80)), .inl (dt 80 (((14 + (5 * ((24 * p1) + l6_2))) + 3).toNat)), .inl (dt 80 (((14 + (5 * ((24 * p1) + l6_2))) + 2).toNat)), .inl (dt 80 (((14 + (5 * ((24 * p1) + l6_2))) + 1).toNat)), .inl (dt 80 ((14 + (5 * ((24 * p1) + l6_2))).toNat)), .inr (.inr (some 79))]) (w' := (SH, dt126)) rfl ?_
        have r151 : (-2147483648) ≤ dt 80 (((14 + (5 * ((24 * p1) + l6_2))) + 4).toNat) ∧ dt 80 (((14 + (5 * ((24 * p1) + l6_2))) + 4).toNat) ≤ 2147483647 := InvC_get hI 80 (((14 + (5 * ((24 * p1) + l6_2))) + 4).toNat) rfl rfl
        refine go_smpq PM184 (L' := [some (.inr (.inr (some 79))), some (.inl p1), some (.inl l6_2), some (.inl (14 + (5 * ((24 * p1) + l6_2))))]) (st' := [.inl (dt 80 (((14 + (5 * ((24 * p1) + l6_2))) + 4).toNat)), .inl (dt 80 (((14 + (5 * ((24 * p1) + l6_2))) + 3).toNat)), .inl (dt 80 (((14 + (5 * ((24 * p1) + l6_2))) + 2).toNat)), .inl (dt 80 (((14 + (5 * ((24 * p1) + l6_2))) + 1).toNat)), .inl (dt 80 ((14 + (5 * ((24 * p1) + l6_2))).toNat)), .inr (.inr (some 79))]) (w' := (SH, dt126)) rfl rfl (s_ev (s_iald (n := 7460) (f := dt126 80) rfl ⟨by omega, by omega⟩) (hF128 80 (by decide) _)) ?_
        refine go_callq PM184 PM183 (Q' := _) rfl rfl rfl rfl (sp_X6_acts L xs sio (d + 0) dt126 hI127  (dt 80 ((14 + (5 * ((24 * p1) + l6_2))).toNat)) (by first | exact bnd r146 (by decide) (by decide) | exact ⟨by omega, by omega⟩) (dt 80 (((14 + (5 * ((24 * p1) + l6_2))) + 1).toNat)) (by first | exact bnd r148 (by decide) (by decide) | exact ⟨by omega, by omega⟩) (dt 80 (((14 + (5 * ((24 * p1) + l6_2))) + 2).toNat)) (by first | exact bnd r149 (by decide) (by decide) | exact ⟨by fail, by fail⟩) (dt 80 (((14 + (5 * ((24 * p1) + l6_2))) + 3).toNat)) (by first | exact bnd r150 (by decide) (by decide) | exact ⟨by fail, by fail⟩) (dt 80 (((14 + (5 * ((24 * p1) + l6_2))) + 4).toNat)) (by first | exact bnd r151 (by decide) (by decide) | exact ⟨by fail, by fail⟩) (by first | exact True.intro | with_reducible assumption | rfl | omega | trivial) (by first | exact True.intro | with_reducible assumption | rfl | omega | trivial) (by first | exact True.intro | with_reducible assumption | rfl | omega | trivial) (by first | exact True.intro | with_reducible assumption | rfl | omega | trivial) (by first | exact True.intro | with_reducible assumption | rfl | omega | trivial)) ?_
        rintro _ _ ⟨dt153, rfl, hI154, hF155, h152⟩
        refine ⟨rfl, ?_⟩
        have hF156 : Fr [88, 89, 90, 91, 92, 93, 94, 95, 96, 97, 98, 99, 100] dt dt153 := Fr_tr hF128 hF155 (by decide)
        rcases h152 with ⟨rfl, h152⟩
        refine go_toq PM184 (k := 2) (pc' := 6) (L' := [some (.inr (.inr (some 79))), some (.inl p1), some (.inl (l6_2 + 1)), some (.inl (14 + (5 * ((24 * p1) + l6_2))))]) (st' := []) (w' := (SH, dt153)) rfl ?_
        exact GO.le (ih_loop130 (l6_2 + 1) dt153 hI154 hF156 (by first | exact bndp i129 (by decide) (by decide) | exact bnde i129 c145 (by decide) (by decide) | omega) (by omega)) ⟨.inl rfl, .inl rfl, .inl rfl, .inr ⟨rfl, trivial⟩, trivial⟩
  exact GO.le (loop130 _ 0 dt2 hI3 hF5 ⟨by decide, by decide⟩ (Nat.lt_succ_self _)) ⟨.inl rfl, .inl rfl, .inl rfl, .inl rfl, trivial⟩
set_option maxRecDepth 20000 in
theorem sp_X6_asked_0 (L : Nat) (xs : Nat → Int32) (sio : Option Nat) (d : Nat) (dt : Nat → Nat → Int) (hI : InvC dt) (hM : MW (dt 80))  (p1 : Int) (h_p1 : 0 ≤ p1 ∧ p1 ≤ 11)  : GO (am_XX L xs sio) (d) 191 0 [some (.inr (.inr (some 79))), some (.inl p1), some (.inl 0)] [] (SH, dt) (fun r w2 => w2 = (SH, dt) ∧ ((r = some (.inl (dt 80 (((5320 + (5 * p1)) + 0)).toNat)) ∧ (0 ≤ dt 80 (((5320 + (5 * p1)) + 0)).toNat ∧ dt 80 (((5320 + (5 * p1)) + 0)).toNat ≤ 7)))) := by
  refine go_toq PM191 (k := 9) (pc' := 13) (L' := [some (.inr (.inr (some 79))), some (.inl p1), some (.inl 0)]) (st' := [.inl ((5320 + (5 * p1)) + 0), .inr (.inr (some 80))]) (w' := (SH, dt)) rfl ?_
  have r1 : (-2147483648) ≤ dt 80 (((5320 + (5 * p1)) + 0).toNat) ∧ dt 80 (((5320 + (5 * p1)) + 0).toNat) ≤ 2147483647 := InvC_get hI 80 (((5320 + (5 * p1)) + 0).toNat) rfl rfl
  have r2 := MW_q hM (p1) ⟨by omega, by omega⟩
  refine go_smpq PM191 (L' := [some (.inr (.inr (some 79))), some (.inl p1), some (.inl 0)]) (st' := [.inl (dt 80 (((5320 + (5 * p1)) + 0).toNat))]) (w' := (SH, dt)) rfl rfl (s_iald (n := 7460) (f := dt 80) rfl ⟨by omega, by omega⟩) ?_
  refine go_retq PM191 (k := 0) (r := some (.inl (dt 80 (((5320 + (5 * p1)) + 0).toNat)))) (w1 := (SH, dt)) rfl ?_
  exact ⟨rfl, ⟨rfl, by first | exact True.intro | with_reducible assumption | rfl | omega | trivial⟩⟩
set_option maxRecDepth 20000 in
theorem sp_X6_asked_1 (L : Nat) (xs : Nat → Int32) (sio : Option Nat) (d : Nat) (dt : Nat → Nat → Int) (hI : InvC dt) (hM : MW (dt 80))  (p1 : Int) (h_p1 : 0 ≤ p1 ∧ p1 ≤ 11)  : GO (am_XX L xs sio) (d) 191 0 [some (.inr (.inr (some 79))), some (.inl p1), some (.inl 1)] [] (SH, dt) (fun r w2 => w2 = (SH, dt) ∧ ((r = some (.inl (dt 80 (((5320 + (5 * p1)) + 1)).toNat)) ∧ (0 ≤ dt 80 (((5320 + (5 * p1)) + 1)).toNat ∧ dt 80 (((5320 + (5 * p1)) + 1)).toNat ≤ 1)))) := by
  refine go_toq PM191 (k := 9) (pc' := 13) (L' := [some (.inr (.inr (some 79))), some (.inl p1), some (.inl 1)]) (st' := [.inl ((5320 + (5 * p1)) + 1), .inr (.inr (some 80))]) (w' := (SH, dt)) rfl ?_
  have r1 : (-2147483648) ≤ dt 80 (((5320 + (5 * p1)) + 1).toNat) ∧ dt 80 (((5320 + (5 * p1)) + 1).toNat) ≤ 2147483647 := InvC_get hI 80 (((5320 + (5 * p1)) + 1).toNat) rfl rfl
  have r2 := MW_q hM (p1) ⟨by omega, by omega⟩
  refine go_smpq PM191 (L' := [some (.inr (.inr (some 79))), some (.inl p1), some (.inl 1)]) (st' := [.inl (dt 80 (((5320 + (5 * p1)) + 1).toNat))]) (w' := (SH, dt)) rfl rfl (s_iald (n := 7460) (f := dt 80) rfl ⟨by omega, by omega⟩) ?_
  refine go_retq PM191 (k := 0) (r := some (.inl (dt 80 (((5320 + (5 * p1)) + 1).toNat)))) (w1 := (SH, dt)) rfl ?_
  exact ⟨rfl, ⟨rfl, by first | exact True.intro | with_reducible assumption | rfl | omega | trivial⟩⟩
set_option maxRecDepth 20000 in
theorem sp_X6_asked_2 (L : Nat) (xs : Nat → Int32) (sio : Option Nat) (d : Nat) (dt : Nat → Nat → Int) (hI : InvC dt) (hM : MW (dt 80))  (p1 : Int) (h_p1 : 0 ≤ p1 ∧ p1 ≤ 11)  : GO (am_XX L xs sio) (d) 191 0 [some (.inr (.inr (some 79))), some (.inl p1), some (.inl 2)] [] (SH, dt) (fun r w2 => w2 = (SH, dt) ∧ ((r = some (.inl (dt 80 (((5320 + (5 * p1)) + 2)).toNat)) ∧ (0 ≤ dt 80 (((5320 + (5 * p1)) + 2)).toNat ∧ dt 80 (((5320 + (5 * p1)) + 2)).toNat ≤ 3) ∧ (dt 80 (((5320 + (5 * p1)) + 1)).toNat = 1 → dt 80 (((5320 + (5 * p1)) + 2)).toNat ≤ 1)))) := by
  refine go_toq PM191 (k := 9) (pc' := 13) (L' := [some (.inr (.inr (some 79))), some (.inl p1), some (.inl 2)]) (st' := [.inl ((5320 + (5 * p1)) + 2), .inr (.inr (some 80))]) (w' := (SH, dt)) rfl ?_
  have r1 : (-2147483648) ≤ dt 80 (((5320 + (5 * p1)) + 2).toNat) ∧ dt 80 (((5320 + (5 * p1)) + 2).toNat) ≤ 2147483647 := InvC_get hI 80 (((5320 + (5 * p1)) + 2).toNat) rfl rfl
  have r2 := MW_q hM (p1) ⟨by omega, by omega⟩
  refine go_smpq PM191 (L' := [some (.inr (.inr (some 79))), some (.inl p1), some (.inl 2)]) (st' := [.inl (dt 80 (((5320 + (5 * p1)) + 2).toNat))]) (w' := (SH, dt)) rfl rfl (s_iald (n := 7460) (f := dt 80) rfl ⟨by omega, by omega⟩) ?_
  refine go_retq PM191 (k := 0) (r := some (.inl (dt 80 (((5320 + (5 * p1)) + 2).toNat)))) (w1 := (SH, dt)) rfl ?_
  exact ⟨rfl, ⟨rfl, ⟨by first | exact True.intro | with_reducible assumption | rfl | omega | trivial, by first | exact True.intro | with_reducible assumption | rfl | omega | trivial⟩⟩⟩
set_option maxRecDepth 20000 in
theorem sp_X6_asked_3 (L : Nat) (xs : Nat → Int32) (sio : Option Nat) (d : Nat) (dt : Nat → Nat → Int) (hI : InvC dt) (hM : MW (dt 80))  (p1 : Int) (h_p1 : 0 ≤ p1 ∧ p1 ≤ 11)  : GO (am_XX L xs sio) (d) 191 0 [some (.inr (.inr (some 79))), some (.inl p1), some (.inl 3)] [] (SH, dt) (fun r w2 => w2 = (SH, dt) ∧ ((r = some (.inl (dt 80 (((5320 + (5 * p1)) + 3)).toNat)) ∧ (0 ≤ dt 80 (((5320 + (5 * p1)) + 3)).toNat ∧ dt 80 (((5320 + (5 * p1)) + 3)).toNat ≤ 2)))) := by
  refine go_toq PM191 (k := 9) (pc' := 13) (L' := [some (.inr (.inr (some 79))), some (.inl p1), some (.inl 3)]) (st' := [.inl ((5320 + (5 * p1)) + 3), .inr (.inr (some 80))]) (w' := (SH, dt)) rfl ?_
  have r1 : (-2147483648) ≤ dt 80 (((5320 + (5 * p1)) + 3).toNat) ∧ dt 80 (((5320 + (5 * p1)) + 3).toNat) ≤ 2147483647 := InvC_get hI 80 (((5320 + (5 * p1)) + 3).toNat) rfl rfl
  have r2 := MW_q hM (p1) ⟨by omega, by omega⟩
  refine go_smpq PM191 (L' := [some (.inr (.inr (some 79))), some (.inl p1), some (.inl 3)]) (st' := [.inl (dt 80 (((5320 + (5 * p1)) + 3).toNat))]) (w' := (SH, dt)) rfl rfl (s_iald (n := 7460) (f := dt 80) rfl ⟨by omega, by omega⟩) ?_
  refine go_retq PM191 (k := 0) (r := some (.inl (dt 80 (((5320 + (5 * p1)) + 3).toNat)))) (w1 := (SH, dt)) rfl ?_
  exact ⟨rfl, ⟨rfl, by first | exact True.intro | with_reducible assumption | rfl | omega | trivial⟩⟩
set_option maxRecDepth 20000 in
theorem sp_X6_asked_4 (L : Nat) (xs : Nat → Int32) (sio : Option Nat) (d : Nat) (dt : Nat → Nat → Int) (hI : InvC dt) (hM : MW (dt 80))  (p1 : Int) (h_p1 : 0 ≤ p1 ∧ p1 ≤ 11)  : GO (am_XX L xs sio) (d) 191 0 [some (.inr (.inr (some 79))), some (.inl p1), some (.inl 4)] [] (SH, dt) (fun r w2 => w2 = (SH, dt) ∧ ((r = some (.inl (dt 80 (((5320 + (5 * p1)) + 4)).toNat)) ∧ (-2147483648 ≤ dt 80 (((5320 + (5 * p1)) + 4)).toNat ∧ dt 80 (((5320 + (5 * p1)) + 4)).toNat ≤ 2147483647) ∧ (dt 80 (((5320 + (5 * p1)) + 1)).toNat = 0 → -1 ≤ dt 80 (((5320 + (5 * p1)) + 4)).toNat ∧ dt 80 (((5320 + (5 * p1)) + 4)).toNat ≤ 3)))) := by
  refine go_toq PM191 (k := 9) (pc' := 13) (L' := [some (.inr (.inr (some 79))), some (.inl p1), some (.inl 4)]) (st' := [.inl ((5320 + (5 * p1)) + 4), .inr (.inr (some 80))]) (w' := (SH, dt)) rfl ?_
  have r1 : (-2147483648) ≤ dt 80 (((5320 + (5 * p1)) + 4).toNat) ∧ dt 80 (((5320 + (5 * p1)) + 4).toNat) ≤ 2147483647 := InvC_get hI 80 (((5320 + (5 * p1)) + 4).toNat) rfl rfl
  have r2 := MW_q hM (p1) ⟨by omega, by omega⟩
  refine go_smpq PM191 (L' := [some (.inr (.inr (some 79))), some (.inl p1), some (.inl 4)]) (st' := [.inl (dt 80 (((5320 + (5 * p1)) + 4).toNat))]) (w' := (SH, dt)) rfl rfl (s_iald (n := 7460) (f := dt 80) rfl ⟨by omega, by omega⟩) ?_
  refine go_retq PM191 (k := 0) (r := some (.inl (dt 80 (((5320 + (5 * p1)) + 4).toNat)))) (w1 := (SH, dt)) rfl ?_
  exact ⟨rfl, ⟨rfl, ⟨by first | exact True.intro | with_reducible assumption | rfl | fail | trivial, by first | exact True.intro | with_reducible assumption | rfl | omega | trivial⟩⟩⟩
set_option maxRecDepth 20000 in
theorem sp_X6_ofChild_0 (L : Nat) (xs : Nat → Int32) (sio : Option Nat) (d : Nat) (dt : Nat → Nat → Int) (hI : InvC dt) (hM : MW (dt 80))  (p1 : Int) (h_p1 : 0 ≤ p1 ∧ p1 ≤ 39)  : GO (am_XX L xs sio) (d) 198 0 [some (.inr (.inr (some 79))), some (.inl p1), some (.inl 0)] [] (SH, dt) (fun r w2 => w2 = (SH, dt) ∧ ((r = some (.inl (dt 80 (((5380 + (4 * p1)) + 0)).toNat)) ∧ (0 ≤ dt 80 (((5380 + (4 * p1)) + 0)).toNat ∧ dt 80 (((5380 + (4 * p1)) + 0)).toNat ≤ 3)))) := by
  refine go_toq PM198 (k := 9) (pc' := 13) (L' := [some (.inr (.inr (some 79))), some (.inl p1), some (.inl 0)]) (st' := [.inl ((5380 + (4 * p1)) + 0), .inr (.inr (some 80))]) (w' := (SH, dt)) rfl ?_
  have r1 : (-2147483648) ≤ dt 80 (((5380 + (4 * p1)) + 0).toNat) ∧ dt 80 (((5380 + (4 * p1)) + 0).toNat) ≤ 2147483647 := InvC_get hI 80 (((5380 + (4 * p1)) + 0).toNat) rfl rfl
  have r2 := MW_c hM (p1) ⟨by omega, by omega⟩
  refine go_smpq PM198 (L' := [some (.inr (.inr (some 79))), some (.inl p1), some (.inl 0)]) (st' := [.inl (dt 80 (((5380 + (4 * p1)) + 0).toNat))]) (w' := (SH, dt)) rfl rfl (s_iald (n := 7460) (f := dt 80) rfl ⟨by omega, by omega⟩) ?_
  refine go_retq PM198 (k := 0) (r := some (.inl (dt 80 (((5380 + (4 * p1)) + 0).toNat)))) (w1 := (SH, dt)) rfl ?_
  exact ⟨rfl, ⟨rfl, by first | exact True.intro | with_reducible assumption | rfl | omega | trivial⟩⟩
set_option maxRecDepth 20000 in
theorem sp_X6_ofChild_1 (L : Nat) (xs : Nat → Int32) (sio : Option Nat) (d : Nat) (dt : Nat → Nat → Int) (hI : InvC dt) (hM : MW (dt 80))  (p1 : Int) (h_p1 : 0 ≤ p1 ∧ p1 ≤ 39)  : GO (am_XX L xs sio) (d) 198 0 [some (.inr (.inr (some 79))), some (.inl p1), some (.inl 1)] [] (SH, dt) (fun r w2 => w2 = (SH, dt) ∧ ((r = some (.inl (dt 80 (((5380 + (4 * p1)) + 1)).toNat)) ∧ (0 ≤ dt 80 (((5380 + (4 * p1)) + 1)).toNat ∧ dt 80 (((5380 + (4 * p1)) + 1)).toNat ≤ 120)))) := by
  refine go_toq PM198 (k := 9) (pc' := 13) (L' := [some (.inr (.inr (some 79))), some (.inl p1), some (.inl 1)]) (st' := [.inl ((5380 + (4 * p1)) + 1), .inr (.inr (some 80))]) (w' := (SH, dt)) rfl ?_
  have r1 : (-2147483648) ≤ dt 80 (((5380 + (4 * p1)) + 1).toNat) ∧ dt 80 (((5380 + (4 * p1)) + 1).toNat) ≤ 2147483647 := InvC_get hI 80 (((5380 + (4 * p1)) + 1).toNat) rfl rfl
  have r2 := MW_c hM (p1) ⟨by omega, by omega⟩
  refine go_smpq PM198 (L' := [some (.inr (.inr (some 79))), some (.inl p1), some (.inl 1)]) (st' := [.inl (dt 80 (((5380 + (4 * p1)) + 1).toNat))]) (w' := (SH, dt)) rfl rfl (s_iald (n := 7460) (f := dt 80) rfl ⟨by omega, by omega⟩) ?_
  refine go_retq PM198 (k := 0) (r := some (.inl (dt 80 (((5380 + (4 * p1)) + 1).toNat)))) (w1 := (SH, dt)) rfl ?_
  exact ⟨rfl, ⟨rfl, by first | exact True.intro | with_reducible assumption | rfl | omega | trivial⟩⟩
set_option maxRecDepth 20000 in
theorem sp_X6_ofChild_2 (L : Nat) (xs : Nat → Int32) (sio : Option Nat) (d : Nat) (dt : Nat → Nat → Int) (hI : InvC dt) (hM : MW (dt 80))  (p1 : Int) (h_p1 : 0 ≤ p1 ∧ p1 ≤ 39)  : GO (am_XX L xs sio) (d) 198 0 [some (.inr (.inr (some 79))), some (.inl p1), some (.inl 2)] [] (SH, dt) (fun r w2 => w2 = (SH, dt) ∧ ((r = some (.inl (dt 80 (((5380 + (4 * p1)) + 2)).toNat)) ∧ (0 ≤ dt 80 (((5380 + (4 * p1)) + 2)).toNat ∧ dt 80 (((5380 + (4 * p1)) + 2)).toNat ≤ 9)))) := by
  refine go_toq PM198 (k := 9) (pc' := 13) (L' := [some (.inr (.inr (some 79))), some (.inl p1), some (.inl 2)]) (st' := [.inl ((5380 + (4 * p1)) + 2), .inr (.inr (some 80))]) (w' := (SH, dt)) rfl ?_
  have r1 : (-2147483648) ≤ dt 80 (((5380 + (4 * p1)) + 2).toNat) ∧ dt 80 (((5380 + (4 * p1)) + 2).toNat) ≤ 2147483647 := InvC_get hI 80 (((5380 + (4 * p1)) + 2).toNat) rfl rfl
  have r2 := MW_c hM (p1) ⟨by omega, by omega⟩
  refine go_smpq PM198 (L' := [some (.inr (.inr (some 79))), some (.inl p1), some (.inl 2)]) (st' := [.inl (dt 80 (((5380 + (4 * p1)) + 2).toNat))]) (w' := (SH, dt)) rfl rfl (s_iald (n := 7460) (f := dt 80) rfl ⟨by omega, by omega⟩) ?_
  refine go_retq PM198 (k := 0) (r := some (.inl (dt 80 (((5380 + (4 * p1)) + 2).toNat)))) (w1 := (SH, dt)) rfl ?_
  exact ⟨rfl, ⟨rfl, by first | exact True.intro | with_reducible assumption | rfl | omega | trivial⟩⟩
set_option maxRecDepth 20000 in
theorem sp_X6_ofChild_3 (L : Nat) (xs : Nat → Int32) (sio : Option Nat) (d : Nat) (dt : Nat → Nat → Int) (hI : InvC dt) (hM : MW (dt 80))  (p1 : Int) (h_p1 : 0 ≤ p1 ∧ p1 ≤ 39)  : GO (am_XX L xs sio) (d) 198 0 [some (.inr (.inr (some 79))), some (.inl p1), some (.inl 3)] [] (SH, dt) (fun r w2 => w2 = (SH, dt) ∧ ((r = some (.inl (dt 80 (((5380 + (4 * p1)) + 3)).toNat)) ∧ (0 ≤ dt 80 (((5380 + (4 * p1)) + 3)).toNat ∧ dt 80 (((5380 + (4 * p1)) + 3)).toNat ≤ 1)))) := by
  refine go_toq PM198 (k := 9) (pc' := 13) (L' := [some (.inr (.inr (some 79))), some (.inl p1), some (.inl 3)]) (st' := [.inl ((5380 + (4 * p1)) + 3), .inr (.inr (some 80))]) (w' := (SH, dt)) rfl ?_
  have r1 : (-2147483648) ≤ dt 80 (((5380 + (4 * p1)) + 3).toNat) ∧ dt 80 (((5380 + (4 * p1)) + 3).toNat) ≤ 2147483647 := InvC_get hI 80 (((5380 + (4 * p1)) + 3).toNat) rfl rfl
  have r2 := MW_c hM (p1) ⟨by omega, by omega⟩
  refine go_smpq PM198 (L' := [some (.inr (.inr (some 79))), some (.inl p1), some (.inl 3)]) (st' := [.inl (dt 80 (((5380 + (4 * p1)) + 3).toNat))]) (w' := (SH, dt)) rfl rfl (s_iald (n := 7460) (f := dt 80) rfl ⟨by omega, by omega⟩) ?_
  refine go_retq PM198 (k := 0) (r := some (.inl (dt 80 (((5380 + (4 * p1)) + 3).toNat)))) (w1 := (SH, dt)) rfl ?_
  exact ⟨rfl, ⟨rfl, by first | exact True.intro | with_reducible assumption | rfl | omega | trivial⟩⟩
set_option maxRecDepth 20000 in
theorem sp_X6_ofAnswer_0 (L : Nat) (xs : Nat → Int32) (sio : Option Nat) (d : Nat) (dt : Nat → Nat → Int) (hI : InvC dt) (hM : MW (dt 80))  (p1 : Int) (h_p1 : 0 ≤ p1 ∧ p1 ≤ 299)  : GO (am_XX L xs sio) (d) 209 0 [some (.inr (.inr (some 79))), some (.inl p1), some (.inl 0)] [] (SH, dt) (fun r w2 => w2 = (SH, dt) ∧ ((r = some (.inl (dt 80 (((5540 + (6 * p1)) + 0)).toNat)) ∧ (0 ≤ dt 80 (((5540 + (6 * p1)) + 0)).toNat ∧ dt 80 (((5540 + (6 * p1)) + 0)).toNat ≤ 39)))) := by
  refine go_toq PM209 (k := 9) (pc' := 14) (L' := [some (.inr (.inr (some 79))), some (.inl p1), some (.inl 0)]) (st' := [.inl ((5540 + (6 * p1)) + 0), .inr (.inr (some 80))]) (w' := (SH, dt)) rfl ?_
  have r1 : (-2147483648) ≤ dt 80 (((5540 + (6 * p1)) + 0).toNat) ∧ dt 80 (((5540 + (6 * p1)) + 0).toNat) ≤ 2147483647 := InvC_get hI 80 (((5540 + (6 * p1)) + 0).toNat) rfl rfl
  have r2 := MW_i hM (p1) ⟨by omega, by omega⟩
  refine go_smpq PM209 (L' := [some (.inr (.inr (some 79))), some (.inl p1), some (.inl 0)]) (st' := [.inl (dt 80 (((5540 + (6 * p1)) + 0).toNat))]) (w' := (SH, dt)) rfl rfl (s_iald (n := 7460) (f := dt 80) rfl ⟨by omega, by omega⟩) ?_
  refine go_retq PM209 (k := 0) (r := some (.inl (dt 80 (((5540 + (6 * p1)) + 0).toNat)))) (w1 := (SH, dt)) rfl ?_
  exact ⟨rfl, ⟨rfl, by first | exact True.intro | with_reducible assumption | rfl | omega | trivial⟩⟩
set_option maxRecDepth 20000 in
theorem sp_X6_ofAnswer_1 (L : Nat) (xs : Nat → Int32) (sio : Option Nat) (d : Nat) (dt : Nat → Nat → Int) (hI : InvC dt) (hM : MW (dt 80))  (p1 : Int) (h_p1 : 0 ≤ p1 ∧ p1 ≤ 299)  : GO (am_XX L xs sio) (d) 209 0 [some (.inr (.inr (some 79))), some (.inl p1), some (.inl 1)] [] (SH, dt) (fun r w2 => w2 = (SH, dt) ∧ ((r = some (.inl (dt 80 (((5540 + (6 * p1)) + 1)).toNat)) ∧ (0 ≤ dt 80 (((5540 + (6 * p1)) + 1)).toNat ∧ dt 80 (((5540 + (6 * p1)) + 1)).toNat ≤ 11)))) := by
  refine go_toq PM209 (k := 9) (pc' := 14) (L' := [some (.inr (.inr (some 79))), some (.inl p1), some (.inl 1)]) (st' := [.inl ((5540 + (6 * p1)) + 1), .inr (.inr (some 80))]) (w' := (SH, dt)) rfl ?_
  have r1 : (-2147483648) ≤ dt 80 (((5540 + (6 * p1)) + 1).toNat) ∧ dt 80 (((5540 + (6 * p1)) + 1).toNat) ≤ 2147483647 := InvC_get hI 80 (((5540 + (6 * p1)) + 1).toNat) rfl rfl
  have r2 := MW_i hM (p1) ⟨by omega, by omega⟩
  refine go_smpq PM209 (L' := [some (.inr (.inr (some 79))), some (.inl p1), some (.inl 1)]) (st' := [.inl (dt 80 (((5540 + (6 * p1)) + 1).toNat))]) (w' := (SH, dt)) rfl rfl (s_iald (n := 7460) (f := dt 80) rfl ⟨by omega, by omega⟩) ?_
  refine go_retq PM209 (k := 0) (r := some (.inl (dt 80 (((5540 + (6 * p1)) + 1).toNat)))) (w1 := (SH, dt)) rfl ?_
  exact ⟨rfl, ⟨rfl, by first | exact True.intro | with_reducible assumption | rfl | omega | trivial⟩⟩
set_option maxRecDepth 20000 in
theorem sp_X6_ofAnswer_2 (L : Nat) (xs : Nat → Int32) (sio : Option Nat) (d : Nat) (dt : Nat → Nat → Int) (hI : InvC dt) (hM : MW (dt 80))  (p1 : Int) (h_p1 : 0 ≤ p1 ∧ p1 ≤ 299)  : GO (am_XX L xs sio) (d) 209 0 [some (.inr (.inr (some 79))), some (.inl p1), some (.inl 2)] [] (SH, dt) (fun r w2 => w2 = (SH, dt) ∧ ((r = some (.inl (dt 80 (((5540 + (6 * p1)) + 2)).toNat)) ∧ (0 ≤ dt 80 (((5540 + (6 * p1)) + 2)).toNat ∧ dt 80 (((5540 + (6 * p1)) + 2)).toNat ≤ 3)))) := by
  refine go_toq PM209 (k := 9) (pc' := 14) (L' := [some (.inr (.inr (some 79))), some (.inl p1), some (.inl 2)]) (st' := [.inl ((5540 + (6 * p1)) + 2), .inr (.inr (some 80))]) (w' := (SH, dt)) rfl ?_
  have r1 : (-2147483648) ≤ dt 80 (((5540 + (6 * p1)) + 2).toNat) ∧ dt 80 (((5540 + (6 * p1)) + 2).toNat) ≤ 2147483647 := InvC_get hI 80 (((5540 + (6 * p1)) + 2).toNat) rfl rfl
  have r2 := MW_i hM (p1) ⟨by omega, by omega⟩
  refine go_smpq PM209 (L' := [some (.inr (.inr (some 79))), some (.inl p1), some (.inl 2)]) (st' := [.inl (dt 80 (((5540 + (6 * p1)) + 2).toNat))]) (w' := (SH, dt)) rfl rfl (s_iald (n := 7460) (f := dt 80) rfl ⟨by omega, by omega⟩) ?_
  refine go_retq PM209 (k := 0) (r := some (.inl (dt 80 (((5540 + (6 * p1)) + 2).toNat)))) (w1 := (SH, dt)) rfl ?_
  exact ⟨rfl, ⟨rfl, by first | exact True.intro | with_reducible assumption | rfl | omega | trivial⟩⟩
set_option maxRecDepth 20000 in
theorem sp_X6_ofAnswer_3 (L : Nat) (xs : Nat → Int32) (sio : Option Nat) (d : Nat) (dt : Nat → Nat → Int) (hI : InvC dt) (hM : MW (dt 80))  (p1 : Int) (h_p1 : 0 ≤ p1 ∧ p1 ≤ 299)  : GO (am_XX L xs sio) (d) 209 0 [some (.inr (.inr (some 79))), some (.inl p1), some (.inl 3)] [] (SH, dt) (fun r w2 => w2 = (SH, dt) ∧ ((r = some (.inl (dt 80 (((5540 + (6 * p1)) + 3)).toNat)) ∧ ((-2147483648) ≤ dt 80 (((5540 + (6 * p1)) + 3)).toNat ∧ dt 80 (((5540 + (6 * p1)) + 3)).toNat ≤ 2147483647)))) := by
  refine go_toq PM209 (k := 9) (pc' := 14) (L' := [some (.inr (.inr (some 79))), some (.inl p1), some (.inl 3)]) (st' := [.inl ((5540 + (6 * p1)) + 3), .inr (.inr (some 80))]) (w' := (SH, dt)) rfl ?_
  have r1 : (-2147483648) ≤ dt 80 (((5540 + (6 * p1)) + 3).toNat) ∧ dt 80 (((5540 + (6 * p1)) + 3).toNat) ≤ 2147483647 := InvC_get hI 80 (((5540 + (6 * p1)) + 3).toNat) rfl rfl
  have r2 := MW_i hM (p1) ⟨by omega, by omega⟩
  refine go_smpq PM209 (L' := [some (.inr (.inr (some 79))), some (.inl p1), some (.inl 3)]) (st' := [.inl (dt 80 (((5540 + (6 * p1)) + 3).toNat))]) (w' := (SH, dt)) rfl rfl (s_iald (n := 7460) (f := dt 80) rfl ⟨by omega, by omega⟩) ?_
  refine go_retq PM209 (k := 0) (r := some (.inl (dt 80 (((5540 + (6 * p1)) + 3).toNat)))) (w1 := (SH, dt)) rfl ?_
  exact ⟨rfl, ⟨rfl, by first | exact True.intro | with_reducible assumption | rfl | fail | trivial⟩⟩
set_option maxRecDepth 20000 in
theorem sp_X6_ofAnswer_x (L : Nat) (xs : Nat → Int32) (sio : Option Nat) (d : Nat) (dt : Nat → Nat → Int) (hI : InvC dt)  (p1 : Int) (h_p1 : 0 ≤ p1 ∧ p1 ≤ 299) (p2 : Int) (h_p2 : 0 ≤ p2 ∧ p2 ≤ 5)  : GO (am_XX L xs sio) (d) 209 0 [some (.inr (.inr (some 79))), some (.inl p1), some (.inl p2)] [] (SH, dt) (fun r w2 => w2 = (SH, dt) ∧ ((∃ v : Int, r = some (.inl v) ∧ ((-2147483648) ≤ v ∧ v ≤ 2147483647) ∧ True))) := by
  refine go_toq PM209 (k := 9) (pc' := 14) (L' := [some (.inr (.inr (some 79))), some (.inl p1), some (.inl p2)]) (st' := [.inl ((5540 + (6 * p1)) + p2), .inr (.inr (some 80))]) (w' := (SH, dt)) rfl ?_
  have r1 : (-2147483648) ≤ dt 80 (((5540 + (6 * p1)) + p2).toNat) ∧ dt 80 (((5540 + (6 * p1)) + p2).toNat) ≤ 2147483647 := InvC_get hI 80 (((5540 + (6 * p1)) + p2).toNat) rfl rfl
  refine go_smpq PM209 (L' := [some (.inr (.inr (some 79))), some (.inl p1), some (.inl p2)]) (st' := [.inl (dt 80 (((5540 + (6 * p1)) + p2).toNat))]) (w' := (SH, dt)) rfl rfl (s_iald (n := 7460) (f := dt 80) rfl ⟨by omega, by omega⟩) ?_
  refine go_retq PM209 (k := 0) (r := some (.inl (dt 80 (((5540 + (6 * p1)) + p2).toNat)))) (w1 := (SH, dt)) rfl ?_
  exact ⟨rfl, ⟨_, rfl, (by first | exact bnd r1 (by decide) (by decide) | exact ⟨by fail, by fail⟩), trivial⟩⟩
set_option maxRecDepth 20000 in
theorem sp_X6_isQuestion (L : Nat) (xs : Nat → Int32) (sio : Option Nat) (d : Nat) (dt : Nat → Nat → Int) (hI : InvC dt) (hM : MW (dt 80))  (p1 : Int) (h_p1 : (-2147483648) ≤ p1 ∧ p1 ≤ 2147483647)  : GO (am_XX L xs sio) (d + 1) 192 0 [some (.inr (.inr (some 79))), some (.inl p1)] [] (SH, dt) (fun r w2 => w2 = (SH, dt) ∧ ((r = some (.inl 1) ∧ (0 ≤ p1 ∧ p1 < dt 80 1 ∧ dt 80 1 ≤ 12)) ∨ (r = some (.inl 0) ∧ (¬ (0 ≤ p1 ∧ p1 < dt 80 1))))) := by
  refine go_toq PM192 (k := 5) (pc' := 7) (L' := [some (.inr (.inr (some 79))), some (.inl p1)]) (st' := [.inl 1, .inr (.inr (some 80)), .inl 0, .inl p1]) (w' := (SH, dt)) rfl ?_
  have r1 : (-2147483648) ≤ dt 80 1 ∧ dt 80 1 ≤ 2147483647 := InvC_get hI 80 1 rfl rfl
  have r2 := MW_n hM
  refine go_smpq PM192 (L' := [some (.inr (.inr (some 79))), some (.inl p1)]) (st' := [.inl (dt 80 1), .inl 0, .inl p1]) (w' := (SH, dt)) rfl rfl (s_iald (n := 7460) (f := dt 80) rfl ⟨by decide, by decide⟩) ?_
  refine go_toq PM192 (k := 2) (pc' := 10) (L' := [some (.inr (.inr (some 79))), some (.inl p1)]) (st' := [.inl ((dt 80 1) - 1), .inl 0, .inl p1]) (w' := (SH, dt)) rfl ?_
  refine go_callq PM192 PM146 (Q' := _) rfl rfl rfl rfl (sp_X6_isIn L xs sio (d + 0) dt hI  p1 (by first | exact h_p1 | exact bnd h_p1 (by decide) (by decide) | exact ⟨by fail, by fail⟩) 0 ⟨by decide, by decide⟩ ((dt 80 1) - 1) ⟨by omega, by omega⟩ ) ?_
  rintro _ _ ⟨rfl, h3⟩
  refine ⟨rfl, ?_⟩
  rcases h3 with ⟨rfl, h3⟩ | ⟨rfl, h3⟩
  · skip
    refine go_retq PM192 (k := 0) (r := some (.inl 1)) (w1 := (SH, dt)) rfl ?_
    exact ⟨rfl, (Or.inl ⟨rfl, by first | exact True.intro | with_reducible assumption | rfl | omega | trivial⟩)⟩
  · skip
    refine go_retq PM192 (k := 0) (r := some (.inl 0)) (w1 := (SH, dt)) rfl ?_
    exact ⟨rfl, (Or.inr ⟨rfl, by first | exact True.intro | with_reducible assumption | rfl | omega | trivial⟩)⟩
set_option maxRecDepth 20000 in
theorem sp_X6_isChild (L : Nat) (xs : Nat → Int32) (sio : Option Nat) (d : Nat) (dt : Nat → Nat → Int) (hI : InvC dt) (hM : MW (dt 80))  (p1 : Int) (h_p1 : (-2147483648) ≤ p1 ∧ p1 ≤ 2147483647)  : GO (am_XX L xs sio) (d + 1) 199 0 [some (.inr (.inr (some 79))), some (.inl p1)] [] (SH, dt) (fun r w2 => w2 = (SH, dt) ∧ ((r = some (.inl 1) ∧ (0 ≤ p1 ∧ p1 < dt 80 2 ∧ dt 80 2 ≤ 40)) ∨ (r = some (.inl 0) ∧ (¬ (0 ≤ p1 ∧ p1 < dt 80 2))))) := by
  refine go_toq PM199 (k := 5) (pc' := 7) (L' := [some (.inr (.inr (some 79))), some (.inl p1)]) (st' := [.inl 2, .inr (.inr (some 80)), .inl 0, .inl p1]) (w' := (SH, dt)) rfl ?_
  have r1 : (-2147483648) ≤ dt 80 2 ∧ dt 80 2 ≤ 2147483647 := InvC_get hI 80 2 rfl rfl
  have r2 := MW_n hM
  refine go_smpq PM199 (L' := [some (.inr (.inr (some 79))), some (.inl p1)]) (st' := [.inl (dt 80 2), .inl 0, .inl p1]) (w' := (SH, dt)) rfl rfl (s_iald (n := 7460) (f := dt 80) rfl ⟨by decide, by decide⟩) ?_
  refine go_toq PM199 (k := 2) (pc' := 10) (L' := [some (.inr (.inr (some 79))), some (.inl p1)]) (st' := [.inl ((dt 80 2) - 1), .inl 0, .inl p1]) (w' := (SH, dt)) rfl ?_
  refine go_callq PM199 PM146 (Q' := _) rfl rfl rfl rfl (sp_X6_isIn L xs sio (d + 0) dt hI  p1 (by first | exact h_p1 | exact bnd h_p1 (by decide) (by decide) | exact ⟨by fail, by fail⟩) 0 ⟨by decide, by decide⟩ ((dt 80 2) - 1) ⟨by omega, by omega⟩ ) ?_
  rintro _ _ ⟨rfl, h3⟩
  refine ⟨rfl, ?_⟩
  rcases h3 with ⟨rfl, h3⟩ | ⟨rfl, h3⟩
  · skip
    refine go_retq PM199 (k := 0) (r := some (.inl 1)) (w1 := (SH, dt)) rfl ?_
    exact ⟨rfl, (Or.inl ⟨rfl, by first | exact True.intro | with_reducible assumption | rfl | omega | trivial⟩)⟩
  · skip
    refine go_retq PM199 (k := 0) (r := some (.inl 0)) (w1 := (SH, dt)) rfl ?_
    exact ⟨rfl, (Or.inr ⟨rfl, by first | exact True.intro | with_reducible assumption | rfl | omega | trivial⟩)⟩
set_option maxRecDepth 20000 in
theorem sp_X6_after (L : Nat) (xs : Nat → Int32) (sio : Option Nat) (d : Nat) (dt : Nat → Nat → Int) (hI : InvC dt) (hM : MW (dt 80))  (p1 : Int) (h_p1 : (-2147483648) ≤ p1 ∧ p1 ≤ 2147483647) (p2 : Int) (h_p2 : (-2147483648) ≤ p2 ∧ p2 ≤ 2147483647) (p3 : Int) (h_p3 : (-2147483648) ≤ p3 ∧ p3 ≤ 2147483647) (p4 : Int) (h_p4 : (-2147483648) ≤ p4 ∧ p4 ≤ 2147483647)  : GO (am_XX L xs sio) (d + 5) 188 0 [some (.inr (.inr (some 79))), some (.inl p1), some (.inl p2), some (.inl p3), some (.inl p4)] [] (SH, dt) (fun r w2 => ∃ dt2 : Nat → Nat → Int, w2 = (SH, dt2) ∧ InvC dt2 ∧ Fr [88, 89, 90, 91, 92, 93, 94, 95, 96, 97, 98, 99, 100] dt dt2 ∧ ((∃ v : Int, r = some (.inl v) ∧ ((-2147483648) ≤ v ∧ v ≤ 2147483647) ∧ True))) := by
  have hF : Fr [88, 89, 90, 91, 92, 93, 94, 95, 96, 97, 98, 99, 100] dt dt := Fr_refl
  refine go_toq PM188 (k := 1) (pc' := 1) (L' := [some (.inr (.inr (some 79))), some (.inl p1), some (.inl p2), some (.inl p3), some (.inl p4)]) (st' := [.inl p1]) (w' := (SH, dt)) rfl ?_
  refine go_callq PM188 PM185 (Q' := _) rfl rfl rfl rfl (sp_X6_isScene L xs sio (d + 3) dt hI  p1 (by first | exact h_p1 | exact bnd h_p1 (by decide) (by decide) | exact ⟨by fail, by fail⟩) ) ?_
  rintro _ _ ⟨rfl, h1⟩
  refine ⟨rfl, ?_⟩
  rcases h1 with ⟨rfl, h1⟩ | ⟨rfl, h1⟩
  · skip
    refine go_toq PM188 (k := 2) (pc' := 8) (L' := [some (.inr (.inr (some 79))), some (.inl p1), some (.inl p2), some (.inl p3), some (.inl p4)]) (st' := [.inl p2]) (w' := (SH, dt)) rfl ?_
    refine go_callq PM188 PM187 (Q' := _) rfl rfl rfl rfl (sp_X6_isThing L xs sio (d + 3) dt hI  p2 (by first | exact h_p2 | exact bnd h_p2 (by decide) (by decide) | exact ⟨by fail, by fail⟩) ) ?_
    rintro _ _ ⟨rfl, h2⟩
    refine ⟨rfl, ?_⟩
    rcases h2 with ⟨rfl, h2⟩ | ⟨rfl, h2⟩
    · skip
      refine go_toq PM188 (k := 4) (pc' := 19) (L' := [some (.inr (.inr (some 79))), some (.inl p1), some (.inl p2), some (.inl p3), some (.inl p4)]) (st' := [.inl 9, .inl 0, .inl p4]) (w' := (SH, dt)) rfl ?_
      refine go_callq PM188 PM146 (Q' := _) rfl rfl rfl rfl (sp_X6_isIn L xs sio (d + 4) dt hI  p4 (by first | exact h_p4 | exact bnd h_p4 (by decide) (by decide) | exact ⟨by fail, by fail⟩) 0 ⟨by decide, by decide⟩ 9 ⟨by decide, by decide⟩ ) ?_
      rintro _ _ ⟨rfl, h3⟩
      refine ⟨rfl, ?_⟩
      rcases h3 with ⟨rfl, h3⟩ | ⟨rfl, h3⟩
      · skip
        refine go_toq PM188 (k := 2) (pc' := 26) (L' := [some (.inr (.inr (some 79))), some (.inl p1), some (.inl p2), some (.inl p3), some (.inl p4)]) (st' := [.inl p3]) (w' := (SH, dt)) rfl ?_
        refine go_callq PM188 PM186 (Q' := _) rfl rfl rfl rfl (sp_X6_isWho L xs sio (d + 3) dt hI  p3 (by first | exact h_p3 | exact bnd h_p3 (by decide) (by decide) | exact ⟨by fail, by fail⟩) ) ?_
        rintro _ _ ⟨rfl, h4⟩
        refine ⟨rfl, ?_⟩
        rcases h4 with ⟨rfl, h4⟩ | ⟨rfl, h4⟩
        · skip
          refine go_toq PM188 (k := 3) (pc' := 37) (L' := [some (.inr (.inr (some 79))), some (.inl p1), some (.inl p2), some (.inl p3), some (.inl p4)]) (st' := [.inl p1, .inr (.inr (some 79))]) (w' := (SH, dt)) rfl ?_
          refine go_callq PM188 PM184 (Q' := _) rfl rfl rfl rfl (sp_X6_goes L xs sio (d + 0) dt hI hM  p1 (by first | exact h_p1 | exact bnd h_p1 (by decide) (by decide) | exact ⟨by omega, by omega⟩) ) ?_
          rintro _ _ ⟨dt6, rfl, hI7, hF8, h5⟩
          refine ⟨rfl, ?_⟩
          have hF9 : Fr [88, 89, 90, 91, 92, 93, 94, 95, 96, 97, 98, 99, 100] dt dt6 := Fr_tr hF hF8 (by decide)
          rcases h5 with ⟨rfl, h5⟩
          have r10 := wr_RR p4
          refine go_toq PM188 (k := 1) (pc' := 42) (L' := [some (.inr (.inr (some 79))), some (.inl p1), some (.inl p2), some (.inl p3), some (.inl p4)]) (st' := [.inl p4]) (w' := (SH, dt6)) rfl ?_
          have e12 : wr p4 = p4 := wr_R ⟨by omega, by omega⟩
          by_cases c11 : wr p4 < 0 ∨ 8 < wr p4
          · refine go_swoq PM188 (p1 := 181) (lo := 0) (hi := 8) rfl rfl c11 ?_
            refine go_toq PM188 (k := 3) (pc' := 186) (L' := [some (.inr (.inr (some 79))), some (.inl p1), some (.inl p2), some (.inl p3), some (.inl p4)]) (st' := [.inl p2, .inr (.inr (some 95))]) (w' := (SH, dt6)) rfl ?_
            have r13 : (-2147483648) ≤ dt6 95 (p2).toNat ∧ dt6 95 (p2).toNat ≤ 2147483647 := InvC_get hI7 95 (p2).toNat rfl rfl
            refine go_smpq PM188 (L' := [some (.inr (.inr (some 79))), some (.inl p1), some (.inl p2), some (.inl p3), some (.inl p4)]) (st' := [.inl (dt6 95 (p2).toNat)]) (w' := (SH, dt6)) rfl rfl (s_iald (n := 3) (f := dt6 95) rfl (by first | exact bndx h_p2 (by decide) (by decide) | exact ⟨by omega, by omega⟩)) ?_
            refine go_retq PM188 (k := 0) (r := some (.inl (dt6 95 (p2).toNat))) (w1 := (SH, dt6)) rfl ?_
            exact ⟨dt6, rfl, hI7, hF9, ⟨_, rfl, (by first | exact bnd r13 (by decide) (by decide) | exact ⟨by fail, by fail⟩), trivial⟩⟩
          · have c14 : wr p4 = 0 ∨ wr p4 = 1 ∨ wr p4 = 2 ∨ wr p4 = 3 ∨ wr p4 = 4 ∨ wr p4 = 5 ∨ wr p4 = 6 ∨ wr p4 = 7 ∨ wr p4 = 8 := by omega
            rcases c14 with c14 | c14 | c14 | c14 | c14 | c14 | c14 | c14 | c14
            · refine go_swiq PM188 (v := 0) (p1 := 92) (lo := 0) (hi := 8) rfl c14 (by decide) rfl ?_
              refine go_toq PM188 (k := 3) (pc' := 97) (L' := [some (.inr (.inr (some 79))), some (.inl p1), some (.inl p2), some (.inl p3), some (.inl p4)]) (st' := [.inl p2, .inr (.inr (some 92))]) (w' := (SH, dt6)) rfl ?_
              have r15 : (-2147483648) ≤ dt6 92 (p2).toNat ∧ dt6 92 (p2).toNat ≤ 2147483647 := InvC_get hI7 92 (p2).toNat rfl rfl
              refine go_smpq PM188 (L' := [some (.inr (.inr (some 79))), some (.inl p1), some (.inl p2), some (.inl p3), some (.inl p4)]) (st' := [.inl (dt6 92 (p2).toNat)]) (w' := (SH, dt6)) rfl rfl (s_iald (n := 3) (f := dt6 92) rfl (by first | exact bndx h_p2 (by decide) (by decide) | exact ⟨by omega, by omega⟩)) ?_
              refine go_retq PM188 (k := 0) (r := some (.inl (dt6 92 (p2).toNat))) (w1 := (SH, dt6)) rfl ?_
              exact ⟨dt6, rfl, hI7, hF9, ⟨_, rfl, (by first | exact bnd r15 (by decide) (by decide) | exact ⟨by fail, by fail⟩), trivial⟩⟩
            · refine go_swiq PM188 (v := 1) (p1 := 99) (lo := 0) (hi := 8) rfl c14 (by decide) rfl ?_
              refine go_toq PM188 (k := 7) (pc' := 108) (L' := [some (.inr (.inr (some 79))), some (.inl p1), some (.inl p2), some (.inl p3), some (.inl p4)]) (st' := [.inl ((3 * p3) + p2), .inr (.inr (some 96))]) (w' := (SH, dt6)) rfl ?_
              have r16 : (-2147483648) ≤ dt6 96 (((3 * p3) + p2).toNat) ∧ dt6 96 (((3 * p3) + p2).toNat) ≤ 2147483647 := InvC_get hI7 96 (((3 * p3) + p2).toNat) rfl rfl
              refine go_smpq PM188 (L' := [some (.inr (.inr (some 79))), some (.inl p1), some (.inl p2), some (.inl p3), some (.inl p4)]) (st' := [.inl (dt6 96 (((3 * p3) + p2).toNat))]) (w' := (SH, dt6)) rfl rfl (s_iald (n := 12) (f := dt6 96) rfl ⟨by omega, by omega⟩) ?_
              refine go_retq PM188 (k := 0) (r := some (.inl (dt6 96 (((3 * p3) + p2).toNat)))) (w1 := (SH, dt6)) rfl ?_
              exact ⟨dt6, rfl, hI7, hF9, ⟨_, rfl, (by first | exact bnd r16 (by decide) (by decide) | exact ⟨by fail, by fail⟩), trivial⟩⟩
            · refine go_swiq PM188 (v := 2) (p1 := 110) (lo := 0) (hi := 8) rfl c14 (by decide) rfl ?_
              refine go_toq PM188 (k := 7) (pc' := 119) (L' := [some (.inr (.inr (some 79))), some (.inl p1), some (.inl p2), some (.inl p3), some (.inl p4)]) (st' := [.inl ((3 * p3) + p2), .inr (.inr (some 97))]) (w' := (SH, dt6)) rfl ?_
              have r17 : (-2147483648) ≤ dt6 97 (((3 * p3) + p2).toNat) ∧ dt6 97 (((3 * p3) + p2).toNat) ≤ 2147483647 := InvC_get hI7 97 (((3 * p3) + p2).toNat) rfl rfl
              refine go_smpq PM188 (L' := [some (.inr (.inr (some 79))), some (.inl p1), some (.inl p2), some (.inl p3), some (.inl p4)]) (st' := [.inl (dt6 97 (((3 * p3) + p2).toNat))]) (w' := (SH, dt6)) rfl rfl (s_iald (n := 12) (f := dt6 97) rfl ⟨by omega, by omega⟩) ?_
              refine go_retq PM188 (k := 0) (r := some (.inl (dt6 97 (((3 * p3) + p2).toNat)))) (w1 := (SH, dt6)) rfl ?_
              exact ⟨dt6, rfl, hI7, hF9, ⟨_, rfl, (by first | exact bnd r17 (by decide) (by decide) | exact ⟨by fail, by fail⟩), trivial⟩⟩
            · refine go_swiq PM188 (v := 3) (p1 := 121) (lo := 0) (hi := 8) rfl c14 (by decide) rfl ?_
              refine go_toq PM188 (k := 7) (pc' := 130) (L' := [some (.inr (.inr (some 79))), some (.inl p1), some (.inl p2), some (.inl p3), some (.inl p4)]) (st' := [.inl ((3 * p3) + p2), .inr (.inr (some 98))]) (w' := (SH, dt6)) rfl ?_
              have r18 : (-2147483648) ≤ dt6 98 (((3 * p3) + p2).toNat) ∧ dt6 98 (((3 * p3) + p2).toNat) ≤ 2147483647 := InvC_get hI7 98 (((3 * p3) + p2).toNat) rfl rfl
              refine go_smpq PM188 (L' := [some (.inr (.inr (some 79))), some (.inl p1), some (.inl p2), some (.inl p3), some (.inl p4)]) (st' := [.inl (dt6 98 (((3 * p3) + p2).toNat))]) (w' := (SH, dt6)) rfl rfl (s_iald (n := 12) (f := dt6 98) rfl ⟨by omega, by omega⟩) ?_
              refine go_retq PM188 (k := 0) (r := some (.inl (dt6 98 (((3 * p3) + p2).toNat)))) (w1 := (SH, dt6)) rfl ?_
              exact ⟨dt6, rfl, hI7, hF9, ⟨_, rfl, (by first | exact bnd r18 (by decide) (by decide) | exact ⟨by fail, by fail⟩), trivial⟩⟩
            · refine go_swiq PM188 (v := 4) (p1 := 132) (lo := 0) (hi := 8) rfl c14 (by decide) rfl ?_
              refine go_toq PM188 (k := 7) (pc' := 141) (L' := [some (.inr (.inr (some 79))), some (.inl p1), some (.inl p2), some (.inl p3), some (.inl p4)]) (st' := [.inl ((3 * p3) + p2), .inr (.inr (some 90))]) (w' := (SH, dt6)) rfl ?_
              have r19 : 0 ≤ dt6 90 (((3 * p3) + p2).toNat) ∧ dt6 90 (((3 * p3) + p2).toNat) ≤ 1 := InvC_get hI7 90 (((3 * p3) + p2).toNat) rfl rfl
              refine go_smpq PM188 (L' := [some (.inr (.inr (some 79))), some (.inl p1), some (.inl p2), some (.inl p3), some (.inl p4)]) (st' := [.inl (dt6 90 (((3 * p3) + p2).toNat))]) (w' := (SH, dt6)) rfl rfl (s_zald (n := 12) (f := dt6 90) rfl ⟨by omega, by omega⟩) ?_
              refine go_ifq PM188 (k := 0) (p1 := 149) (p2 := 145) (L' := [some (.inr (.inr (some 79))), some (.inl p1), some (.inl p2), some (.inl p3), some (.inl p4)]) (st' := []) (w' := (SH, dt6)) rfl (z_eq (a := dt6 90 (((3 * p3) + p2).toNat)) (by first | exact bnd r19 (by decide) (by decide) | exact ⟨by fail, by fail⟩)) (fun c21 => ?_) (fun c21 => ?_)
              · skip
                refine go_retq PM188 (k := 1) (r := some (.inl 0)) (w1 := (SH, dt6)) rfl ?_
                exact ⟨dt6, rfl, hI7, hF9, ⟨_, rfl, ⟨by decide, by decide⟩, trivial⟩⟩
              · skip
                have qc21 : 1 ≤ dt6 90 (((3 * p3) + p2).toNat) := by omega
                replace c21 := hid c21
                refine go_retq PM188 (k := 2) (r := some (.inl 1)) (w1 := (SH, dt6)) rfl ?_
                exact ⟨dt6, rfl, hI7, hF9, ⟨_, rfl, ⟨by decide, by decide⟩, trivial⟩⟩
            · refine go_swiq PM188 (v := 5) (p1 := 151) (lo := 0) (hi := 8) rfl c14 (by decide) rfl ?_
              refine go_toq PM188 (k := 3) (pc' := 156) (L' := [some (.inr (.inr (some 79))), some (.inl p1), some (.inl p2), some (.inl p3), some (.inl p4)]) (st' := [.inl p2, .inr (.inr (some 93))]) (w' := (SH, dt6)) rfl ?_
              have r22 : (-2147483648) ≤ dt6 93 (p2).toNat ∧ dt6 93 (p2).toNat ≤ 2147483647 := InvC_get hI7 93 (p2).toNat rfl rfl
              refine go_smpq PM188 (L' := [some (.inr (.inr (some 79))), some (.inl p1), some (.inl p2), some (.inl p3), some (.inl p4)]) (st' := [.inl (dt6 93 (p2).toNat)]) (w' := (SH, dt6)) rfl rfl (s_iald (n := 3) (f := dt6 93) rfl (by first | exact bndx h_p2 (by decide) (by decide) | exact ⟨by omega, by omega⟩)) ?_
              refine go_retq PM188 (k := 0) (r := some (.inl (dt6 93 (p2).toNat))) (w1 := (SH, dt6)) rfl ?_
              exact ⟨dt6, rfl, hI7, hF9, ⟨_, rfl, (by first | exact bnd r22 (by decide) (by decide) | exact ⟨by fail, by fail⟩), trivial⟩⟩
            · refine go_swiq PM188 (v := 6) (p1 := 158) (lo := 0) (hi := 8) rfl c14 (by decide) rfl ?_
              refine go_toq PM188 (k := 3) (pc' := 163) (L' := [some (.inr (.inr (some 79))), some (.inl p1), some (.inl p2), some (.inl p3), some (.inl p4)]) (st' := [.inl p2, .inr (.inr (some 100))]) (w' := (SH, dt6)) rfl ?_
              have r23 : (-2147483648) ≤ dt6 100 (p2).toNat ∧ dt6 100 (p2).toNat ≤ 2147483647 := InvC_get hI7 100 (p2).toNat rfl rfl
              refine go_smpq PM188 (L' := [some (.inr (.inr (some 79))), some (.inl p1), some (.inl p2), some (.inl p3), some (.inl p4)]) (st' := [.inl (dt6 100 (p2).toNat)]) (w' := (SH, dt6)) rfl rfl (s_iald (n := 6) (f := dt6 100) rfl (by first | exact bndx h_p2 (by decide) (by decide) | exact ⟨by omega, by omega⟩)) ?_
              refine go_retq PM188 (k := 0) (r := some (.inl (dt6 100 (p2).toNat))) (w1 := (SH, dt6)) rfl ?_
              exact ⟨dt6, rfl, hI7, hF9, ⟨_, rfl, (by first | exact bnd r23 (by decide) (by decide) | exact ⟨by fail, by fail⟩), trivial⟩⟩
            · refine go_swiq PM188 (v := 7) (p1 := 165) (lo := 0) (hi := 8) rfl c14 (by decide) rfl ?_
              refine go_toq PM188 (k := 5) (pc' := 172) (L' := [some (.inr (.inr (some 79))), some (.inl p1), some (.inl p2), some (.inl p3), some (.inl p4)]) (st' := [.inl (3 + p2), .inr (.inr (some 100))]) (w' := (SH, dt6)) rfl ?_
              have r24 : (-2147483648) ≤ dt6 100 ((3 + p2).toNat) ∧ dt6 100 ((3 + p2).toNat) ≤ 2147483647 := InvC_get hI7 100 ((3 + p2).toNat) rfl rfl
              refine go_smpq PM188 (L' := [some (.inr (.inr (some 79))), some (.inl p1), some (.inl p2), some (.inl p3), some (.inl p4)]) (st' := [.inl (dt6 100 ((3 + p2).toNat))]) (w' := (SH, dt6)) rfl rfl (s_iald (n := 6) (f := dt6 100) rfl ⟨by omega, by omega⟩) ?_
              refine go_retq PM188 (k := 0) (r := some (.inl (dt6 100 ((3 + p2).toNat)))) (w1 := (SH, dt6)) rfl ?_
              exact ⟨dt6, rfl, hI7, hF9, ⟨_, rfl, (by first | exact bnd r24 (by decide) (by decide) | exact ⟨by fail, by fail⟩), trivial⟩⟩
            · refine go_swiq PM188 (v := 8) (p1 := 174) (lo := 0) (hi := 8) rfl c14 (by decide) rfl ?_
              refine go_toq PM188 (k := 3) (pc' := 179) (L' := [some (.inr (.inr (some 79))), some (.inl p1), some (.inl p2), some (.inl p3), some (.inl p4)]) (st' := [.inl p2, .inr (.inr (some 94))]) (w' := (SH, dt6)) rfl ?_
              have r25 : (-2147483648) ≤ dt6 94 (p2).toNat ∧ dt6 94 (p2).toNat ≤ 2147483647 := InvC_get hI7 94 (p2).toNat rfl rfl
              refine go_smpq PM188 (L' := [some (.inr (.inr (some 79))), some (.inl p1), some (.inl p2), some (.inl p3), some (.inl p4)]) (st' := [.inl (dt6 94 (p2).toNat)]) (w' := (SH, dt6)) rfl rfl (s_iald (n := 3) (f := dt6 94) rfl (by first | exact bndx h_p2 (by decide) (by decide) | exact ⟨by omega, by omega⟩)) ?_
              refine go_retq PM188 (k := 0) (r := some (.inl (dt6 94 (p2).toNat))) (w1 := (SH, dt6)) rfl ?_
              exact ⟨dt6, rfl, hI7, hF9, ⟨_, rfl, (by first | exact bnd r25 (by decide) (by decide) | exact ⟨by fail, by fail⟩), trivial⟩⟩
        · skip
          refine go_retq PM188 (k := 2) (r := some (.inl (-2))) (w1 := (SH, dt)) rfl ?_
          exact ⟨dt, rfl, hI, hF, ⟨_, rfl, ⟨by decide, by decide⟩, trivial⟩⟩
      · skip
        refine go_retq PM188 (k := 2) (r := some (.inl (-2))) (w1 := (SH, dt)) rfl ?_
        exact ⟨dt, rfl, hI, hF, ⟨_, rfl, ⟨by decide, by decide⟩, trivial⟩⟩
    · skip
      refine go_retq PM188 (k := 2) (r := some (.inl (-2))) (w1 := (SH, dt)) rfl ?_
      exact ⟨dt, rfl, hI, hF, ⟨_, rfl, ⟨by decide, by decide⟩, trivial⟩⟩
  · skip
    refine go_retq PM188 (k := 2) (r := some (.inl (-2))) (w1 := (SH, dt)) rfl ?_
    exact ⟨dt, rfl, hI, hF, ⟨_, rfl, ⟨by decide, by decide⟩, trivial⟩⟩
set_option maxRecDepth 20000 in
theorem sp_X6_thinks (L : Nat) (xs : Nat → Int32) (sio : Option Nat) (d : Nat) (dt : Nat → Nat → Int) (hI : InvC dt) (hM : MW (dt 80))  (p1 : Int) (h_p1 : (-2147483648) ≤ p1 ∧ p1 ≤ 2147483647) (p2 : Int) (h_p2 : (-2147483648) ≤ p2 ∧ p2 ≤ 2147483647) (p3 : Int) (h_p3 : (-2147483648) ≤ p3 ∧ p3 ≤ 2147483647) (p4 : Int) (h_p4 : (-2147483648) ≤ p4 ∧ p4 ≤ 2147483647)  : GO (am_XX L xs sio) (d + 5) 189 0 [some (.inr (.inr (some 79))), some (.inl p1), some (.inl p2), some (.inl p3), some (.inl p4)] [] (SH, dt) (fun r w2 => ∃ dt2 : Nat → Nat → Int, w2 = (SH, dt2) ∧ InvC dt2 ∧ Fr [88, 89, 90, 91, 92, 93, 94, 95, 96, 97, 98, 99, 100] dt dt2 ∧ ((∃ v : Int, r = some (.inl v) ∧ ((-2147483648) ≤ v ∧ v ≤ 2147483647) ∧ True))) := by
  have hF : Fr [88, 89, 90, 91, 92, 93, 94, 95, 96, 97, 98, 99, 100] dt dt := Fr_refl
  refine go_toq PM189 (k := 1) (pc' := 1) (L' := [some (.inr (.inr (some 79))), some (.inl p1), some (.inl p2), some (.inl p3), some (.inl p4)]) (st' := [.inl p1]) (w' := (SH, dt)) rfl ?_
  refine go_callq PM189 PM185 (Q' := _) rfl rfl rfl rfl (sp_X6_isScene L xs sio (d + 3) dt hI  p1 (by first | exact h_p1 | exact bnd h_p1 (by decide) (by decide) | exact ⟨by fail, by fail⟩) ) ?_
  rintro _ _ ⟨rfl, h1⟩
  refine ⟨rfl, ?_⟩
  rcases h1 with ⟨rfl, h1⟩ | ⟨rfl, h1⟩
  · skip
    refine go_toq PM189 (k := 2) (pc' := 8) (L' := [some (.inr (.inr (some 79))), some (.inl p1), some (.inl p2), some (.inl p3), some (.inl p4)]) (st' := [.inl p2]) (w' := (SH, dt)) rfl ?_
    refine go_callq PM189 PM186 (Q' := _) rfl rfl rfl rfl (sp_X6_isWho L xs sio (d + 3) dt hI  p2 (by first | exact h_p2 | exact bnd h_p2 (by decide) (by decide) | exact ⟨by fail, by fail⟩) ) ?_
    rintro _ _ ⟨rfl, h2⟩
    refine ⟨rfl, ?_⟩
    rcases h2 with ⟨rfl, h2⟩ | ⟨rfl, h2⟩
    · skip
      refine go_toq PM189 (k := 2) (pc' := 15) (L' := [some (.inr (.inr (some 79))), some (.inl p1), some (.inl p2), some (.inl p3), some (.inl p4)]) (st' := [.inl p3]) (w' := (SH, dt)) rfl ?_
      refine go_callq PM189 PM186 (Q' := _) rfl rfl rfl rfl (sp_X6_isWho L xs sio (d + 3) dt hI  p3 (by first | exact h_p3 | exact bnd h_p3 (by decide) (by decide) | exact ⟨by fail, by fail⟩) ) ?_
      rintro _ _ ⟨rfl, h3⟩
      refine ⟨rfl, ?_⟩
      rcases h3 with ⟨rfl, h3⟩ | ⟨rfl, h3⟩
      · skip
        refine go_ifq PM189 (k := 3) (p1 := 34) (p2 := 26) (L' := [some (.inr (.inr (some 79))), some (.inl p1), some (.inl p2), some (.inl p3), some (.inl p4)]) (st' := []) (w' := (SH, dt)) rfl (c_eq (a := p2) (b := p3) (by first | exact bnd h_p2 (by decide) (by decide) | exact ⟨by fail, by fail⟩) (by first | exact bnd h_p3 (by decide) (by decide) | exact ⟨by fail, by fail⟩)) (fun c4 => ?_) (fun c4 => ?_)
        · skip
          refine go_retq PM189 (k := 1) (r := some (.inl (-2))) (w1 := (SH, dt)) rfl ?_
          exact ⟨dt, rfl, hI, hF, ⟨_, rfl, ⟨by decide, by decide⟩, trivial⟩⟩
        · skip
          replace c4 := hid c4
          refine go_toq PM189 (k := 1) (pc' := 28) (L' := [some (.inr (.inr (some 79))), some (.inl p1), some (.inl p2), some (.inl p3), some (.inl p4)]) (st' := [.inl p4]) (w' := (SH, dt)) rfl ?_
          refine go_callq PM189 PM187 (Q' := _) rfl rfl rfl rfl (sp_X6_isThing L xs sio (d + 3) dt hI  p4 (by first | exact h_p4 | exact bnd h_p4 (by decide) (by decide) | exact ⟨by fail, by fail⟩) ) ?_
          rintro _ _ ⟨rfl, h5⟩
          refine ⟨rfl, ?_⟩
          rcases h5 with ⟨rfl, h5⟩ | ⟨rfl, h5⟩
          · skip
            refine go_toq PM189 (k := 3) (pc' := 39) (L' := [some (.inr (.inr (some 79))), some (.inl p1), some (.inl p2), some (.inl p3), some (.inl p4)]) (st' := [.inl p1, .inr (.inr (some 79))]) (w' := (SH, dt)) rfl ?_
            refine go_callq PM189 PM184 (Q' := _) rfl rfl rfl rfl (sp_X6_goes L xs sio (d + 0) dt hI hM  p1 (by first | exact h_p1 | exact bnd h_p1 (by decide) (by decide) | exact ⟨by omega, by omega⟩) ) ?_
            rintro _ _ ⟨dt7, rfl, hI8, hF9, h6⟩
            refine ⟨rfl, ?_⟩
            have hF10 : Fr [88, 89, 90, 91, 92, 93, 94, 95, 96, 97, 98, 99, 100] dt dt7 := Fr_tr hF hF9 (by decide)
            rcases h6 with ⟨rfl, h6⟩
            refine go_toq PM189 (k := 11) (pc' := 57) (L' := [some (.inr (.inr (some 79))), some (.inl p1), some (.inl p2), some (.inl p3), some (.inl p4)]) (st' := [.inl (((12 * p2) + (3 * p3)) + p4), .inr (.inr (some 99))]) (w' := (SH, dt7)) rfl ?_
            have r11 : (-2147483648) ≤ dt7 99 ((((12 * p2) + (3 * p3)) + p4).toNat) ∧ dt7 99 ((((12 * p2) + (3 * p3)) + p4).toNat) ≤ 2147483647 := InvC_get hI8 99 ((((12 * p2) + (3 * p3)) + p4).toNat) rfl rfl
            refine go_smpq PM189 (L' := [some (.inr (.inr (some 79))), some (.inl p1), some (.inl p2), some (.inl p3), some (.inl p4)]) (st' := [.inl (dt7 99 ((((12 * p2) + (3 * p3)) + p4).toNat))]) (w' := (SH, dt7)) rfl rfl (s_iald (n := 48) (f := dt7 99) rfl ⟨by omega, by omega⟩) ?_
            refine go_retq PM189 (k := 0) (r := some (.inl (dt7 99 ((((12 * p2) + (3 * p3)) + p4).toNat)))) (w1 := (SH, dt7)) rfl ?_
            exact ⟨dt7, rfl, hI8, hF10, ⟨_, rfl, (by first | exact bnd r11 (by decide) (by decide) | exact ⟨by fail, by fail⟩), trivial⟩⟩
          · skip
            refine go_retq PM189 (k := 2) (r := some (.inl (-2))) (w1 := (SH, dt)) rfl ?_
            exact ⟨dt, rfl, hI, hF, ⟨_, rfl, ⟨by decide, by decide⟩, trivial⟩⟩
      · skip
        refine go_retq PM189 (k := 2) (r := some (.inl (-2))) (w1 := (SH, dt)) rfl ?_
        exact ⟨dt, rfl, hI, hF, ⟨_, rfl, ⟨by decide, by decide⟩, trivial⟩⟩
    · skip
      refine go_retq PM189 (k := 2) (r := some (.inl (-2))) (w1 := (SH, dt)) rfl ?_
      exact ⟨dt, rfl, hI, hF, ⟨_, rfl, ⟨by decide, by decide⟩, trivial⟩⟩
  · skip
    refine go_retq PM189 (k := 2) (r := some (.inl (-2))) (w1 := (SH, dt)) rfl ?_
    exact ⟨dt, rfl, hI, hF, ⟨_, rfl, ⟨by decide, by decide⟩, trivial⟩⟩
set_option maxRecDepth 20000 in
theorem sp_X6_here (L : Nat) (xs : Nat → Int32) (sio : Option Nat) (d : Nat) (dt : Nat → Nat → Int) (hI : InvC dt) (hM : MW (dt 80))  (p1 : Int) (h_p1 : (-2147483648) ≤ p1 ∧ p1 ≤ 2147483647) (p2 : Int) (h_p2 : (-2147483648) ≤ p2 ∧ p2 ≤ 2147483647) (p3 : Int) (h_p3 : (-2147483648) ≤ p3 ∧ p3 ≤ 2147483647)  : GO (am_XX L xs sio) (d + 5) 190 0 [some (.inr (.inr (some 79))), some (.inl p1), some (.inl p2), some (.inl p3), none] [] (SH, dt) (fun r w2 => ∃ dt2 : Nat → Nat → Int, w2 = (SH, dt2) ∧ InvC dt2 ∧ Fr [88, 89, 90, 91, 92, 93, 94, 95, 96, 97, 98, 99, 100] dt dt2 ∧ ((r = some (.inl 1) ∧ True) ∨ (r = some (.inl 0) ∧ True) ∨ (r = some (.inl (-1)) ∧ True))) := by
  have hF : Fr [88, 89, 90, 91, 92, 93, 94, 95, 96, 97, 98, 99, 100] dt dt := Fr_refl
  refine go_toq PM190 (k := 1) (pc' := 1) (L' := [some (.inr (.inr (some 79))), some (.inl p1), some (.inl p2), some (.inl p3), none]) (st' := [.inl p1]) (w' := (SH, dt)) rfl ?_
  refine go_callq PM190 PM185 (Q' := _) rfl rfl rfl rfl (sp_X6_isScene L xs sio (d + 3) dt hI  p1 (by first | exact h_p1 | exact bnd h_p1 (by decide) (by decide) | exact ⟨by fail, by fail⟩) ) ?_
  rintro _ _ ⟨rfl, h1⟩
  refine ⟨rfl, ?_⟩
  rcases h1 with ⟨rfl, h1⟩ | ⟨rfl, h1⟩
  · skip
    refine go_toq PM190 (k := 2) (pc' := 8) (L' := [some (.inr (.inr (some 79))), some (.inl p1), some (.inl p2), some (.inl p3), none]) (st' := [.inl p2]) (w' := (SH, dt)) rfl ?_
    refine go_callq PM190 PM186 (Q' := _) rfl rfl rfl rfl (sp_X6_isWho L xs sio (d + 3) dt hI  p2 (by first | exact h_p2 | exact bnd h_p2 (by decide) (by decide) | exact ⟨by fail, by fail⟩) ) ?_
    rintro _ _ ⟨rfl, h2⟩
    refine ⟨rfl, ?_⟩
    rcases h2 with ⟨rfl, h2⟩ | ⟨rfl, h2⟩
    · skip
      refine go_toq PM190 (k := 4) (pc' := 17) (L' := [some (.inr (.inr (some 79))), some (.inl p1), some (.inl p2), some (.inl p3), none]) (st' := [.inl 3, .inl 0, .inl p3]) (w' := (SH, dt)) rfl ?_
      refine go_callq PM190 PM146 (Q' := _) rfl rfl rfl rfl (sp_X6_isIn L xs sio (d + 4) dt hI  p3 (by first | exact h_p3 | exact bnd h_p3 (by decide) (by decide) | exact ⟨by fail, by fail⟩) 0 ⟨by decide, by decide⟩ 3 ⟨by decide, by decide⟩ ) ?_
      rintro _ _ ⟨rfl, h3⟩
      refine ⟨rfl, ?_⟩
      rcases h3 with ⟨rfl, h3⟩ | ⟨rfl, h3⟩
      · skip
        refine go_toq PM190 (k := 3) (pc' := 27) (L' := [some (.inr (.inr (some 79))), some (.inl p1), some (.inl p2), some (.inl p3), none]) (st' := [.inl p1, .inr (.inr (some 79))]) (w' := (SH, dt)) rfl ?_
        refine go_callq PM190 PM184 (Q' := _) rfl rfl rfl rfl (sp_X6_goes L xs sio (d + 0) dt hI hM  p1 (by first | exact h_p1 | exact bnd h_p1 (by decide) (by decide) | exact ⟨by omega, by omega⟩) ) ?_
        rintro _ _ ⟨dt5, rfl, hI6, hF7, h4⟩
        refine ⟨rfl, ?_⟩
        have hF8 : Fr [88, 89, 90, 91, 92, 93, 94, 95, 96, 97, 98, 99, 100] dt dt5 := Fr_tr hF hF7 (by decide)
        rcases h4 with ⟨rfl, h4⟩
        have j14 : ∀ (j14_s0 : Int) (i15 : 0 ≤ j14_s0 ∧ j14_s0 ≤ 1), GO (am_XX L xs sio) (d + 5) 190 68 [some (.inr (.inr (some 79))), none, none, none, none] [.inl j14_s0] (SH, dt5) (fun r w2 => ∃ dt2 : Nat → Nat → Int, w2 = (SH, dt2) ∧ InvC dt2 ∧ Fr [88, 89, 90, 91, 92, 93, 94, 95, 96, 97, 98, 99, 100] dt dt2 ∧ ((r = some (.inl 1) ∧ True) ∨ (r = some (.inl 0) ∧ True) ∨ (r = some (.inl (-1)) ∧ True))) := by
          intro j14_s0 i15
          refine go_ifq PM190 (k := 2) (p1 := 79) (p2 := 75) (L' := [some (.inr (.inr (some 79))), none, none, none, some (.inl j14_s0)]) (st' := []) (w' := (SH, dt5)) rfl (z_eq (a := j14_s0) (by first | exact bnd i15 (by decide) (by decide) | exact ⟨by fail, by fail⟩)) (fun c17 => ?_) (fun c17 => ?_)
          · skip
            refine go_retq PM190 (k := 1) (r := some (.inl 0)) (w1 := (SH, dt5)) rfl ?_
            exact ⟨dt5, rfl, hI6, hF8, (Or.inr (Or.inl ⟨rfl, trivial⟩))⟩
          · skip
            replace c17 := hid c17
            refine go_retq PM190 (k := 2) (r := some (.inl 1)) (w1 := (SH, dt5)) rfl ?_
            exact ⟨dt5, rfl, hI6, hF8, (Or.inl ⟨rfl, trivial⟩)⟩
        refine go_ifq PM190 (k := 1) (p1 := 43) (p2 := 34) (L' := [some (.inr (.inr (some 79))), some (.inl p1), some (.inl p2), some (.inl p3), none]) (st' := []) (w' := (SH, dt5)) rfl (z_ne (a := p3) (by first | exact bnd h_p3 (by decide) (by decide) | exact ⟨by fail, by fail⟩)) (fun c18 => ?_) (fun c18 => ?_)
        · skip
          replace c18 := hid c18
          refine go_ifq PM190 (k := 2) (p1 := 56) (p2 := 48) (L' := [some (.inr (.inr (some 79))), some (.inl p1), some (.inl p2), some (.inl p3), none]) (st' := []) (w' := (SH, dt5)) rfl (c_ne (a := p3) (b := 1) (by first | exact bnd h_p3 (by decide) (by decide) | exact ⟨by fail, by fail⟩) ⟨by decide, by decide⟩) (fun c19 => ?_) (fun c19 => ?_)
          · skip
            replace c19 := hid c19
            refine go_toq PM190 (k := 9) (pc' := 67) (L' := [some (.inr (.inr (some 79))), some (.inl p1), some (.inl p2), some (.inl p3), none]) (st' := [.inl (((2 * p2) + p3) - 2), .inr (.inr (some 89))]) (w' := (SH, dt5)) rfl ?_
            have r20 : 0 ≤ dt5 89 ((((2 * p2) + p3) - 2).toNat) ∧ dt5 89 ((((2 * p2) + p3) - 2).toNat) ≤ 1 := InvC_get hI6 89 ((((2 * p2) + p3) - 2).toNat) rfl rfl
            refine go_smpq PM190 (L' := [some (.inr (.inr (some 79))), some (.inl p1), some (.inl p2), some (.inl p3), none]) (st' := [.inl (dt5 89 ((((2 * p2) + p3) - 2).toNat))]) (w' := (SH, dt5)) rfl rfl (s_zald (n := 8) (f := dt5 89) rfl ⟨by (have z0_ := unhid c18; have z1_ := unhid c19; omega), by omega⟩) ?_
            exact GO.le (j14 (dt5 89 ((((2 * p2) + p3) - 2).toNat)) (by first | exact bnd r20 (by decide) (by decide) | fail)) ⟨.inl rfl, .inr ⟨rfl, trivial⟩, .inr ⟨rfl, trivial⟩, .inr ⟨rfl, trivial⟩, .inl rfl, trivial⟩
          · skip
            refine go_toq PM190 (k := 2) (pc' := 50) (L' := [some (.inr (.inr (some 79))), some (.inl p1), some (.inl p2), some (.inl p3), none]) (st' := [.inl p2, .inr (.inr (some 79))]) (w' := (SH, dt5)) rfl ?_
            refine go_callq PM190 PM178 (Q' := _) rfl rfl rfl rfl (sp_X6_canSee L xs sio (d + 4) dt5 hI6  p2 (by first | exact h_p2 | exact bnd h_p2 (by decide) (by decide) | exact ⟨by omega, by omega⟩) ) ?_
            rintro _ _ ⟨rfl, h21⟩
            refine ⟨rfl, ?_⟩
            rcases h21 with ⟨rfl, h21⟩ | ⟨rfl, h21⟩
            · skip
              refine go_retq PM190 (k := 6) (r := some (.inl 1)) (w1 := (SH, dt5)) rfl ?_
              exact ⟨dt5, rfl, hI6, hF8, (Or.inl ⟨rfl, trivial⟩)⟩
            · skip
              refine go_retq PM190 (k := 5) (r := some (.inl 0)) (w1 := (SH, dt5)) rfl ?_
              exact ⟨dt5, rfl, hI6, hF8, (Or.inr (Or.inl ⟨rfl, trivial⟩))⟩
        · skip
          refine go_toq PM190 (k := 3) (pc' := 39) (L' := [some (.inr (.inr (some 79))), some (.inl p1), some (.inl p2), some (.inl p3), none]) (st' := [.inl p2, .inr (.inr (some 88))]) (w' := (SH, dt5)) rfl ?_
          have r22 : 0 ≤ dt5 88 (p2).toNat ∧ dt5 88 (p2).toNat ≤ 1 := InvC_get hI6 88 (p2).toNat rfl rfl
          refine go_smpq PM190 (L' := [some (.inr (.inr (some 79))), some (.inl p1), some (.inl p2), some (.inl p3), none]) (st' := [.inl (dt5 88 (p2).toNat)]) (w' := (SH, dt5)) rfl rfl (s_zald (n := 4) (f := dt5 88) rfl (by first | exact bndx h_p2 (by decide) (by decide) | exact ⟨by omega, by omega⟩)) ?_
          refine go_toq PM190 (k := 1) (pc' := 68) (L' := [some (.inr (.inr (some 79))), some (.inl p1), some (.inl p2), some (.inl p3), none]) (st' := [.inl (dt5 88 (p2).toNat)]) (w' := (SH, dt5)) rfl ?_
          exact GO.le (j14 (dt5 88 (p2).toNat) (by first | exact bnd r22 (by decide) (by decide) | fail)) ⟨.inl rfl, .inr ⟨rfl, trivial⟩, .inr ⟨rfl, trivial⟩, .inr ⟨rfl, trivial⟩, .inl rfl, trivial⟩
      · skip
        refine go_retq PM190 (k := 2) (r := some (.inl (-1))) (w1 := (SH, dt)) rfl ?_
        exact ⟨dt, rfl, hI, hF, (Or.inr (Or.inr ⟨rfl, trivial⟩))⟩
    · skip
      refine go_retq PM190 (k := 2) (r := some (.inl (-1))) (w1 := (SH, dt)) rfl ?_
      exact ⟨dt, rfl, hI, hF, (Or.inr (Or.inr ⟨rfl, trivial⟩))⟩
  · skip
    refine go_retq PM190 (k := 2) (r := some (.inl (-1))) (w1 := (SH, dt)) rfl ?_
    exact ⟨dt, rfl, hI, hF, (Or.inr (Or.inr ⟨rfl, trivial⟩))⟩
set_option maxRecDepth 20000 in
theorem sp_X6_saysNow (L : Nat) (xs : Nat → Int32) (sio : Option Nat) (d : Nat) (dt : Nat → Nat → Int) (hI : InvC dt) (hM : MW (dt 80))  (p1 : Int) (h_p1 : 0 ≤ p1 ∧ p1 ≤ 11) (p2 : Int) (h_p2 : 0 ≤ p2 ∧ p2 ≤ 7)  : GO (am_XX L xs sio) (d + 1) 194 0 [some (.inr (.inr (some 79))), some (.inl p1), some (.inl p2), none, none, none] [] (SH, dt) (fun r w2 => w2 = (SH, dt) ∧ ((∃ v : Int, r = some (.inl v) ∧ ((-2147483648) ≤ v ∧ v ≤ 2147483647) ∧ True))) := by
  refine go_toq PM194 (k := 3) (pc' := 3) (L' := [some (.inr (.inr (some 79))), some (.inl p1), some (.inl p2), none, none, none]) (st' := [.inl 2, .inl p1, .inr (.inr (some 79))]) (w' := (SH, dt)) rfl ?_
  refine go_callq PM194 PM191 (Q' := _) rfl rfl rfl rfl (sp_X6_asked_2 L xs sio (d + 0) dt hI hM  p1 (by first | exact h_p1 | exact bnd h_p1 (by decide) (by decide) | exact ⟨by fail, by fail⟩) ) ?_
  rintro _ _ ⟨rfl, h1⟩
  refine ⟨rfl, ?_⟩
  rcases h1 with ⟨rfl, h1⟩
  refine go_toq PM194 (k := 4) (pc' := 10) (L' := [some (.inr (.inr (some 79))), some (.inl p1), some (.inl p2), some (.inl (dt 80 (((5320 + (5 * p1)) + 2)).toNat)), none, none]) (st' := [.inl 3, .inl p1, .inr (.inr (some 79))]) (w' := (SH, dt)) rfl ?_
  refine go_callq PM194 PM191 (Q' := _) rfl rfl rfl rfl (sp_X6_asked_3 L xs sio (d + 0) dt hI hM  p1 (by first | exact h_p1 | exact bnd h_p1 (by decide) (by decide) | exact ⟨by fail, by fail⟩) ) ?_
  rintro _ _ ⟨rfl, h2⟩
  refine ⟨rfl, ?_⟩
  rcases h2 with ⟨rfl, h2⟩
  refine go_toq PM194 (k := 4) (pc' := 18) (L' := [some (.inr (.inr (some 79))), some (.inl p1), some (.inl p2), some (.inl (dt 80 (((5320 + (5 * p1)) + 2)).toNat)), some (.inl (dt 80 (((5320 + (5 * p1)) + 3)).toNat)), none]) (st' := [.inl 4, .inl p1, .inr (.inr (some 79))]) (w' := (SH, dt)) rfl ?_
  refine go_callq PM194 PM191 (Q' := _) rfl rfl rfl rfl (sp_X6_asked_4 L xs sio (d + 0) dt hI hM  p1 (by first | exact h_p1 | exact bnd h_p1 (by decide) (by decide) | exact ⟨by fail, by fail⟩) ) ?_
  rintro _ _ ⟨rfl, h3⟩
  refine ⟨rfl, ?_⟩
  rcases h3 with ⟨rfl, h3⟩
  refine go_toq PM194 (k := 4) (pc' := 26) (L' := [some (.inr (.inr (some 79))), some (.inl p1), some (.inl p2), some (.inl (dt 80 (((5320 + (5 * p1)) + 2)).toNat)), some (.inl (dt 80 (((5320 + (5 * p1)) + 3)).toNat)), some (.inl (dt 80 (((5320 + (5 * p1)) + 4)).toNat))]) (st' := [.inl 1, .inl p1, .inr (.inr (some 79))]) (w' := (SH, dt)) rfl ?_
  refine go_callq PM194 PM191 (Q' := _) rfl rfl rfl rfl (sp_X6_asked_1 L xs sio (d + 0) dt hI hM  p1 (by first | exact h_p1 | exact bnd h_p1 (by decide) (by decide) | exact ⟨by fail, by fail⟩) ) ?_
  rintro _ _ ⟨rfl, h4⟩
  refine ⟨rfl, ?_⟩
  rcases h4 with ⟨rfl, h4⟩
  refine go_ifq PM194 (k := 1) (p1 := 95) (p2 := 33) (L' := [some (.inr (.inr (some 79))), some (.inl p1), some (.inl p2), some (.inl (dt 80 (((5320 + (5 * p1)) + 2)).toNat)), some (.inl (dt 80 (((5320 + (5 * p1)) + 3)).toNat)), some (.inl (dt 80 (((5320 + (5 * p1)) + 4)).toNat))]) (st' := []) (w' := (SH, dt)) rfl (c_ne (a := dt 80 (((5320 + (5 * p1)) + 1)).toNat) (b := 1) ⟨by omega, by omega⟩ ⟨by decide, by decide⟩) (fun c5 => ?_) (fun c5 => ?_)
  · skip
    replace c5 := hid c5
    have r6 := wr_RR p2
    refine go_toq PM194 (k := 1) (pc' := 96) (L' := [some (.inr (.inr (some 79))), some (.inl p1), some (.inl p2), some (.inl (dt 80 (((5320 + (5 * p1)) + 2)).toNat)), some (.inl (dt 80 (((5320 + (5 * p1)) + 3)).toNat)), some (.inl (dt 80 (((5320 + (5 * p1)) + 4)).toNat))]) (st' := [.inl p2]) (w' := (SH, dt)) rfl ?_
    have e8 : wr p2 = p2 := wr_R ⟨by omega, by omega⟩
    by_cases c7 : wr p2 < 0 ∨ 6 < wr p2
    · refine go_swoq PM194 (p1 := 283) (lo := 0) (hi := 6) rfl rfl c7 ?_
      refine go_toq PM194 (k := 3) (pc' := 289) (L' := [some (.inr (.inr (some 79))), some (.inl p1), some (.inl p2), some (.inl (dt 80 (((5320 + (5 * p1)) + 2)).toNat)), some (.inl (dt 80 (((5320 + (5 * p1)) + 3)).toNat)), some (.inl (dt 80 (((5320 + (5 * p1)) + 4)).toNat))]) (st' := [.inl (dt 80 (((5320 + (5 * p1)) + 3)).toNat), .inr (.inr (some 95))]) (w' := (SH, dt)) rfl ?_
      have r9 : (-2147483648) ≤ dt 95 ((dt 80 (((5320 + (5 * p1)) + 3)).toNat).toNat) ∧ dt 95 ((dt 80 (((5320 + (5 * p1)) + 3)).toNat).toNat) ≤ 2147483647 := InvC_get hI 95 ((dt 80 (((5320 + (5 * p1)) + 3)).toNat).toNat) rfl rfl
      refine go_smpq PM194 (L' := [some (.inr (.inr (some 79))), some (.inl p1), some (.inl p2), some (.inl (dt 80 (((5320 + (5 * p1)) + 2)).toNat)), some (.inl (dt 80 (((5320 + (5 * p1)) + 3)).toNat)), some (.inl (dt 80 (((5320 + (5 * p1)) + 4)).toNat))]) (st' := [.inl (dt 95 ((dt 80 (((5320 + (5 * p1)) + 3)).toNat).toNat))]) (w' := (SH, dt)) rfl rfl (s_iald (n := 3) (f := dt 95) rfl ⟨by omega, by omega⟩) ?_
      refine go_retq PM194 (k := 0) (r := some (.inl (dt 95 ((dt 80 (((5320 + (5 * p1)) + 3)).toNat).toNat)))) (w1 := (SH, dt)) rfl ?_
      exact ⟨rfl, ⟨_, rfl, (by first | exact bnd r9 (by decide) (by decide) | exact ⟨by fail, by fail⟩), trivial⟩⟩
    · have c10 : wr p2 = 0 ∨ wr p2 = 1 ∨ wr p2 = 2 ∨ wr p2 = 3 ∨ wr p2 = 4 ∨ wr p2 = 5 ∨ wr p2 = 6 := by omega
      rcases c10 with c10 | c10 | c10 | c10 | c10 | c10 | c10
      · refine go_swiq PM194 (v := 0) (p1 := 140) (lo := 0) (hi := 6) rfl c10 (by decide) rfl ?_
        refine go_toq PM194 (k := 3) (pc' := 146) (L' := [some (.inr (.inr (some 79))), some (.inl p1), some (.inl p2), some (.inl (dt 80 (((5320 + (5 * p1)) + 2)).toNat)), some (.inl (dt 80 (((5320 + (5 * p1)) + 3)).toNat)), some (.inl (dt 80 (((5320 + (5 * p1)) + 4)).toNat))]) (st' := [.inl (dt 80 (((5320 + (5 * p1)) + 3)).toNat), .inr (.inr (some 92))]) (w' := (SH, dt)) rfl ?_
        have r11 : (-2147483648) ≤ dt 92 ((dt 80 (((5320 + (5 * p1)) + 3)).toNat).toNat) ∧ dt 92 ((dt 80 (((5320 + (5 * p1)) + 3)).toNat).toNat) ≤ 2147483647 := InvC_get hI 92 ((dt 80 (((5320 + (5 * p1)) + 3)).toNat).toNat) rfl rfl
        refine go_smpq PM194 (L' := [some (.inr (.inr (some 79))), some (.inl p1), some (.inl p2), some (.inl (dt 80 (((5320 + (5 * p1)) + 2)).toNat)), some (.inl (dt 80 (((5320 + (5 * p1)) + 3)).toNat)), some (.inl (dt 80 (((5320 + (5 * p1)) + 4)).toNat))]) (st' := [.inl (dt 92 ((dt 80 (((5320 + (5 * p1)) + 3)).toNat).toNat))]) (w' := (SH, dt)) rfl rfl (s_iald (n := 3) (f := dt 92) rfl ⟨by omega, by omega⟩) ?_
        refine go_retq PM194 (k := 0) (r := some (.inl (dt 92 ((dt 80 (((5320 + (5 * p1)) + 3)).toNat).toNat)))) (w1 := (SH, dt)) rfl ?_
        exact ⟨rfl, ⟨_, rfl, (by first | exact bnd r11 (by decide) (by decide) | exact ⟨by fail, by fail⟩), trivial⟩⟩
      · refine go_swiq PM194 (v := 1) (p1 := 148) (lo := 0) (hi := 6) rfl c10 (by decide) rfl ?_
        refine go_toq PM194 (k := 7) (pc' := 158) (L' := [some (.inr (.inr (some 79))), some (.inl p1), some (.inl p2), some (.inl (dt 80 (((5320 + (5 * p1)) + 2)).toNat)), some (.inl (dt 80 (((5320 + (5 * p1)) + 3)).toNat)), some (.inl (dt 80 (((5320 + (5 * p1)) + 4)).toNat))]) (st' := [.inl ((3 * (dt 80 (((5320 + (5 * p1)) + 2)).toNat)) + (dt 80 (((5320 + (5 * p1)) + 3)).toNat)), .inr (.inr (some 96))]) (w' := (SH, dt)) rfl ?_
        have r12 : (-2147483648) ≤ dt 96 (((3 * (dt 80 (((5320 + (5 * p1)) + 2)).toNat)) + (dt 80 (((5320 + (5 * p1)) + 3)).toNat)).toNat) ∧ dt 96 (((3 * (dt 80 (((5320 + (5 * p1)) + 2)).toNat)) + (dt 80 (((5320 + (5 * p1)) + 3)).toNat)).toNat) ≤ 2147483647 := InvC_get hI 96 (((3 * (dt 80 (((5320 + (5 * p1)) + 2)).toNat)) + (dt 80 (((5320 + (5 * p1)) + 3)).toNat)).toNat) rfl rfl
        refine go_smpq PM194 (L' := [some (.inr (.inr (some 79))), some (.inl p1), some (.inl p2), some (.inl (dt 80 (((5320 + (5 * p1)) + 2)).toNat)), some (.inl (dt 80 (((5320 + (5 * p1)) + 3)).toNat)), some (.inl (dt 80 (((5320 + (5 * p1)) + 4)).toNat))]) (st' := [.inl (dt 96 (((3 * (dt 80 (((5320 + (5 * p1)) + 2)).toNat)) + (dt 80 (((5320 + (5 * p1)) + 3)).toNat)).toNat))]) (w' := (SH, dt)) rfl rfl (s_iald (n := 12) (f := dt 96) rfl ⟨by omega, by omega⟩) ?_
        refine go_retq PM194 (k := 0) (r := some (.inl (dt 96 (((3 * (dt 80 (((5320 + (5 * p1)) + 2)).toNat)) + (dt 80 (((5320 + (5 * p1)) + 3)).toNat)).toNat)))) (w1 := (SH, dt)) rfl ?_
        exact ⟨rfl, ⟨_, rfl, (by first | exact bnd r12 (by decide) (by decide) | exact ⟨by fail, by fail⟩), trivial⟩⟩
      · refine go_swiq PM194 (v := 2) (p1 := 160) (lo := 0) (hi := 6) rfl c10 (by decide) rfl ?_
        refine go_toq PM194 (k := 7) (pc' := 170) (L' := [some (.inr (.inr (some 79))), some (.inl p1), some (.inl p2), some (.inl (dt 80 (((5320 + (5 * p1)) + 2)).toNat)), some (.inl (dt 80 (((5320 + (5 * p1)) + 3)).toNat)), some (.inl (dt 80 (((5320 + (5 * p1)) + 4)).toNat))]) (st' := [.inl ((3 * (dt 80 (((5320 + (5 * p1)) + 2)).toNat)) + (dt 80 (((5320 + (5 * p1)) + 3)).toNat)), .inr (.inr (some 97))]) (w' := (SH, dt)) rfl ?_
        have r13 : (-2147483648) ≤ dt 97 (((3 * (dt 80 (((5320 + (5 * p1)) + 2)).toNat)) + (dt 80 (((5320 + (5 * p1)) + 3)).toNat)).toNat) ∧ dt 97 (((3 * (dt 80 (((5320 + (5 * p1)) + 2)).toNat)) + (dt 80 (((5320 + (5 * p1)) + 3)).toNat)).toNat) ≤ 2147483647 := InvC_get hI 97 (((3 * (dt 80 (((5320 + (5 * p1)) + 2)).toNat)) + (dt 80 (((5320 + (5 * p1)) + 3)).toNat)).toNat) rfl rfl
        refine go_smpq PM194 (L' := [some (.inr (.inr (some 79))), some (.inl p1), some (.inl p2), some (.inl (dt 80 (((5320 + (5 * p1)) + 2)).toNat)), some (.inl (dt 80 (((5320 + (5 * p1)) + 3)).toNat)), some (.inl (dt 80 (((5320 + (5 * p1)) + 4)).toNat))]) (st' := [.inl (dt 97 (((3 * (dt 80 (((5320 + (5 * p1)) + 2)).toNat)) + (dt 80 (((5320 + (5 * p1)) + 3)).toNat)).toNat))]) (w' := (SH, dt)) rfl rfl (s_iald (n := 12) (f := dt 97) rfl ⟨by omega, by omega⟩) ?_
        refine go_retq PM194 (k := 0) (r := some (.inl (dt 97 (((3 * (dt 80 (((5320 + (5 * p1)) + 2)).toNat)) + (dt 80 (((5320 + (5 * p1)) + 3)).toNat)).toNat)))) (w1 := (SH, dt)) rfl ?_
        exact ⟨rfl, ⟨_, rfl, (by first | exact bnd r13 (by decide) (by decide) | exact ⟨by fail, by fail⟩), trivial⟩⟩
      · refine go_swiq PM194 (v := 3) (p1 := 172) (lo := 0) (hi := 6) rfl c10 (by decide) rfl ?_
        refine go_toq PM194 (k := 7) (pc' := 182) (L' := [some (.inr (.inr (some 79))), some (.inl p1), some (.inl p2), some (.inl (dt 80 (((5320 + (5 * p1)) + 2)).toNat)), some (.inl (dt 80 (((5320 + (5 * p1)) + 3)).toNat)), some (.inl (dt 80 (((5320 + (5 * p1)) + 4)).toNat))]) (st' := [.inl ((3 * (dt 80 (((5320 + (5 * p1)) + 2)).toNat)) + (dt 80 (((5320 + (5 * p1)) + 3)).toNat)), .inr (.inr (some 98))]) (w' := (SH, dt)) rfl ?_
        have r14 : (-2147483648) ≤ dt 98 (((3 * (dt 80 (((5320 + (5 * p1)) + 2)).toNat)) + (dt 80 (((5320 + (5 * p1)) + 3)).toNat)).toNat) ∧ dt 98 (((3 * (dt 80 (((5320 + (5 * p1)) + 2)).toNat)) + (dt 80 (((5320 + (5 * p1)) + 3)).toNat)).toNat) ≤ 2147483647 := InvC_get hI 98 (((3 * (dt 80 (((5320 + (5 * p1)) + 2)).toNat)) + (dt 80 (((5320 + (5 * p1)) + 3)).toNat)).toNat) rfl rfl
        refine go_smpq PM194 (L' := [some (.inr (.inr (some 79))), some (.inl p1), some (.inl p2), some (.inl (dt 80 (((5320 + (5 * p1)) + 2)).toNat)), some (.inl (dt 80 (((5320 + (5 * p1)) + 3)).toNat)), some (.inl (dt 80 (((5320 + (5 * p1)) + 4)).toNat))]) (st' := [.inl (dt 98 (((3 * (dt 80 (((5320 + (5 * p1)) + 2)).toNat)) + (dt 80 (((5320 + (5 * p1)) + 3)).toNat)).toNat))]) (w' := (SH, dt)) rfl rfl (s_iald (n := 12) (f := dt 98) rfl ⟨by omega, by omega⟩) ?_
        refine go_retq PM194 (k := 0) (r := some (.inl (dt 98 (((3 * (dt 80 (((5320 + (5 * p1)) + 2)).toNat)) + (dt 80 (((5320 + (5 * p1)) + 3)).toNat)).toNat)))) (w1 := (SH, dt)) rfl ?_
        exact ⟨rfl, ⟨_, rfl, (by first | exact bnd r14 (by decide) (by decide) | exact ⟨by fail, by fail⟩), trivial⟩⟩
      · refine go_swiq PM194 (v := 4) (p1 := 184) (lo := 0) (hi := 6) rfl c10 (by decide) rfl ?_
        refine go_toq PM194 (k := 7) (pc' := 194) (L' := [some (.inr (.inr (some 79))), some (.inl p1), some (.inl p2), some (.inl (dt 80 (((5320 + (5 * p1)) + 2)).toNat)), some (.inl (dt 80 (((5320 + (5 * p1)) + 3)).toNat)), some (.inl (dt 80 (((5320 + (5 * p1)) + 4)).toNat))]) (st' := [.inl ((3 * (dt 80 (((5320 + (5 * p1)) + 2)).toNat)) + (dt 80 (((5320 + (5 * p1)) + 3)).toNat)), .inr (.inr (some 90))]) (w' := (SH, dt)) rfl ?_
        have r15 : 0 ≤ dt 90 (((3 * (dt 80 (((5320 + (5 * p1)) + 2)).toNat)) + (dt 80 (((5320 + (5 * p1)) + 3)).toNat)).toNat) ∧ dt 90 (((3 * (dt 80 (((5320 + (5 * p1)) + 2)).toNat)) + (dt 80 (((5320 + (5 * p1)) + 3)).toNat)).toNat) ≤ 1 := InvC_get hI 90 (((3 * (dt 80 (((5320 + (5 * p1)) + 2)).toNat)) + (dt 80 (((5320 + (5 * p1)) + 3)).toNat)).toNat) rfl rfl
        refine go_smpq PM194 (L' := [some (.inr (.inr (some 79))), some (.inl p1), some (.inl p2), some (.inl (dt 80 (((5320 + (5 * p1)) + 2)).toNat)), some (.inl (dt 80 (((5320 + (5 * p1)) + 3)).toNat)), some (.inl (dt 80 (((5320 + (5 * p1)) + 4)).toNat))]) (st' := [.inl (dt 90 (((3 * (dt 80 (((5320 + (5 * p1)) + 2)).toNat)) + (dt 80 (((5320 + (5 * p1)) + 3)).toNat)).toNat))]) (w' := (SH, dt)) rfl rfl (s_zald (n := 12) (f := dt 90) rfl ⟨by omega, by omega⟩) ?_
        have j19 : ∀ (j19_s0 : Int) (i20 : (-2147483648) ≤ j19_s0 ∧ j19_s0 ≤ 2147483647), GO (am_XX L xs sio) (d + 1) 194 215 [some (.inr (.inr (some 79))), none, none, none, none, none] [.inl j19_s0] (SH, dt) (fun r w2 => w2 = (SH, dt) ∧ ((∃ v : Int, r = some (.inl v) ∧ ((-2147483648) ≤ v ∧ v ≤ 2147483647) ∧ True))) := by
          intro j19_s0 i20
          refine go_retq PM194 (k := 0) (r := some (.inl j19_s0)) (w1 := (SH, dt)) rfl ?_
          exact ⟨rfl, ⟨_, rfl, (by first | exact bnd i20 (by decide) (by decide) | exact ⟨by fail, by fail⟩), trivial⟩⟩
        refine go_ifq PM194 (k := 0) (p1 := 208) (p2 := 198) (L' := [some (.inr (.inr (some 79))), some (.inl p1), some (.inl p2), some (.inl (dt 80 (((5320 + (5 * p1)) + 2)).toNat)), some (.inl (dt 80 (((5320 + (5 * p1)) + 3)).toNat)), some (.inl (dt 80 (((5320 + (5 * p1)) + 4)).toNat))]) (st' := []) (w' := (SH, dt)) rfl (z_eq (a := dt 90 (((3 * (dt 80 (((5320 + (5 * p1)) + 2)).toNat)) + (dt 80 (((5320 + (5 * p1)) + 3)).toNat)).toNat)) (by first | exact bnd r15 (by decide) (by decide) | exact ⟨by fail, by fail⟩)) (fun c21 => ?_) (fun c21 => ?_)
        · skip
          refine go_toq PM194 (k := 3) (pc' := 214) (L' := [some (.inr (.inr (some 79))), some (.inl p1), some (.inl p2), some (.inl (dt 80 (((5320 + (5 * p1)) + 2)).toNat)), some (.inl (dt 80 (((5320 + (5 * p1)) + 3)).toNat)), some (.inl (dt 80 (((5320 + (5 * p1)) + 4)).toNat))]) (st' := [.inl (dt 80 (((5320 + (5 * p1)) + 3)).toNat), .inr (.inr (some 94))]) (w' := (SH, dt)) rfl ?_
          have r22 : (-2147483648) ≤ dt 94 ((dt 80 (((5320 + (5 * p1)) + 3)).toNat).toNat) ∧ dt 94 ((dt 80 (((5320 + (5 * p1)) + 3)).toNat).toNat) ≤ 2147483647 := InvC_get hI 94 ((dt 80 (((5320 + (5 * p1)) + 3)).toNat).toNat) rfl rfl
          refine go_smpq PM194 (L' := [some (.inr (.inr (some 79))), some (.inl p1), some (.inl p2), some (.inl (dt 80 (((5320 + (5 * p1)) + 2)).toNat)), some (.inl (dt 80 (((5320 + (5 * p1)) + 3)).toNat)), some (.inl (dt 80 (((5320 + (5 * p1)) + 4)).toNat))]) (st' := [.inl (dt 94 ((dt 80 (((5320 + (5 * p1)) + 3)).toNat).toNat))]) (w' := (SH, dt)) rfl rfl (s_iald (n := 3) (f := dt 94) rfl ⟨by omega, by omega⟩) ?_
          exact GO.le (j19 (dt 94 ((dt 80 (((5320 + (5 * p1)) + 3)).toNat).toNat)) (by first | exact bnd r22 (by decide) (by decide) | fail)) ⟨.inl rfl, .inr ⟨rfl, trivial⟩, .inr ⟨rfl, trivial⟩, .inr ⟨rfl, trivial⟩, .inr ⟨rfl, trivial⟩, .inr ⟨rfl, trivial⟩, trivial⟩
        · skip
          have qc21 : 1 ≤ dt 90 (((3 * (dt 80 (((5320 + (5 * p1)) + 2)).toNat)) + (dt 80 (((5320 + (5 * p1)) + 3)).toNat)).toNat) := by omega
          replace c21 := hid c21
          refine go_toq PM194 (k := 3) (pc' := 204) (L' := [some (.inr (.inr (some 79))), some (.inl p1), some (.inl p2), some (.inl (dt 80 (((5320 + (5 * p1)) + 2)).toNat)), some (.inl (dt 80 (((5320 + (5 * p1)) + 3)).toNat)), some (.inl (dt 80 (((5320 + (5 * p1)) + 4)).toNat))]) (st' := [.inl (dt 80 (((5320 + (5 * p1)) + 3)).toNat), .inr (.inr (some 92))]) (w' := (SH, dt)) rfl ?_
          have r23 : (-2147483648) ≤ dt 92 ((dt 80 (((5320 + (5 * p1)) + 3)).toNat).toNat) ∧ dt 92 ((dt 80 (((5320 + (5 * p1)) + 3)).toNat).toNat) ≤ 2147483647 := InvC_get hI 92 ((dt 80 (((5320 + (5 * p1)) + 3)).toNat).toNat) rfl rfl
          refine go_smpq PM194 (L' := [some (.inr (.inr (some 79))), some (.inl p1), some (.inl p2), some (.inl (dt 80 (((5320 + (5 * p1)) + 2)).toNat)), some (.inl (dt 80 (((5320 + (5 * p1)) + 3)).toNat)), some (.inl (dt 80 (((5320 + (5 * p1)) + 4)).toNat))]) (st' := [.inl (dt 92 ((dt 80 (((5320 + (5 * p1)) + 3)).toNat).toNat))]) (w' := (SH, dt)) rfl rfl (s_iald (n := 3) (f := dt 92) rfl ⟨by omega, by omega⟩) ?_
          refine go_toq PM194 (k := 1) (pc' := 215) (L' := [some (.inr (.inr (some 79))), some (.inl p1), some (.inl p2), some (.inl (dt 80 (((5320 + (5 * p1)) + 2)).toNat)), some (.inl (dt 80 (((5320 + (5 * p1)) + 3)).toNat)), some (.inl (dt 80 (((5320 + (5 * p1)) + 4)).toNat))]) (st' := [.inl (dt 92 ((dt 80 (((5320 + (5 * p1)) + 3)).toNat).toNat))]) (w' := (SH, dt)) rfl ?_
          exact GO.le (j19 (dt 92 ((dt 80 (((5320 + (5 * p1)) + 3)).toNat).toNat)) (by first | exact bnd r23 (by decide) (by decide) | fail)) ⟨.inl rfl, .inr ⟨rfl, trivial⟩, .inr ⟨rfl, trivial⟩, .inr ⟨rfl, trivial⟩, .inr ⟨rfl, trivial⟩, .inr ⟨rfl, trivial⟩, trivial⟩
      · refine go_swiq PM194 (v := 5) (p1 := 216) (lo := 0) (hi := 6) rfl c10 (by decide) rfl ?_
        have j27 : ∀ (j27_s0 : Int) (i28 : (-2147483648) ≤ j27_s0 ∧ j27_s0 ≤ 2147483647), GO (am_XX L xs sio) (d + 1) 194 244 [some (.inr (.inr (some 79))), none, none, none, none, none] [.inl j27_s0] (SH, dt) (fun r w2 => w2 = (SH, dt) ∧ ((∃ v : Int, r = some (.inl v) ∧ ((-2147483648) ≤ v ∧ v ≤ 2147483647) ∧ True))) := by
          intro j27_s0 i28
          refine go_retq PM194 (k := 0) (r := some (.inl j27_s0)) (w1 := (SH, dt)) rfl ?_
          exact ⟨rfl, ⟨_, rfl, (by first | exact bnd i28 (by decide) (by decide) | exact ⟨by fail, by fail⟩), trivial⟩⟩
        refine go_ifq PM194 (k := 2) (p1 := 232) (p2 := 222) (L' := [some (.inr (.inr (some 79))), some (.inl p1), some (.inl p2), some (.inl (dt 80 (((5320 + (5 * p1)) + 2)).toNat)), some (.inl (dt 80 (((5320 + (5 * p1)) + 3)).toNat)), some (.inl (dt 80 (((5320 + (5 * p1)) + 4)).toNat))]) (st' := []) (w' := (SH, dt)) rfl (c_ne (a := dt 80 (((5320 + (5 * p1)) + 4)).toNat) (b := (-1)) ⟨by omega, by omega⟩ ⟨by decide, by decide⟩) (fun c29 => ?_) (fun c29 => ?_)
        · skip
          replace c29 := hid c29
          refine go_toq PM194 (k := 7) (pc' := 243) (L' := [some (.inr (.inr (some 79))), some (.inl p1), some (.inl p2), some (.inl (dt 80 (((5320 + (5 * p1)) + 2)).toNat)), some (.inl (dt 80 (((5320 + (5 * p1)) + 3)).toNat)), some (.inl (dt 80 (((5320 + (5 * p1)) + 4)).toNat))]) (st' := [.inl ((3 * (dt 80 (((5320 + (5 * p1)) + 4)).toNat)) + (dt 80 (((5320 + (5 * p1)) + 3)).toNat)), .inr (.inr (some 96))]) (w' := (SH, dt)) rfl ?_
          have r30 : (-2147483648) ≤ dt 96 (((3 * (dt 80 (((5320 + (5 * p1)) + 4)).toNat)) + (dt 80 (((5320 + (5 * p1)) + 3)).toNat)).toNat) ∧ dt 96 (((3 * (dt 80 (((5320 + (5 * p1)) + 4)).toNat)) + (dt 80 (((5320 + (5 * p1)) + 3)).toNat)).toNat) ≤ 2147483647 := InvC_get hI 96 (((3 * (dt 80 (((5320 + (5 * p1)) + 4)).toNat)) + (dt 80 (((5320 + (5 * p1)) + 3)).toNat)).toNat) rfl rfl
          refine go_smpq PM194 (L' := [some (.inr (.inr (some 79))), some (.inl p1), some (.inl p2), some (.inl (dt 80 (((5320 + (5 * p1)) + 2)).toNat)), some (.inl (dt 80 (((5320 + (5 * p1)) + 3)).toNat)), some (.inl (dt 80 (((5320 + (5 * p1)) + 4)).toNat))]) (st' := [.inl (dt 96 (((3 * (dt 80 (((5320 + (5 * p1)) + 4)).toNat)) + (dt 80 (((5320 + (5 * p1)) + 3)).toNat)).toNat))]) (w' := (SH, dt)) rfl rfl (s_iald (n := 12) (f := dt 96) rfl ⟨by (have z0_ := unhid c5; have z1_ := unhid c29; omega), by (have z_ := unhid c5; omega)⟩) ?_
          exact GO.le (j27 (dt 96 (((3 * (dt 80 (((5320 + (5 * p1)) + 4)).toNat)) + (dt 80 (((5320 + (5 * p1)) + 3)).toNat)).toNat)) (by first | exact bnd r30 (by decide) (by decide) | fail)) ⟨.inl rfl, .inr ⟨rfl, trivial⟩, .inr ⟨rfl, trivial⟩, .inr ⟨rfl, trivial⟩, .inr ⟨rfl, trivial⟩, .inr ⟨rfl, trivial⟩, trivial⟩
        · skip
          refine go_toq PM194 (k := 3) (pc' := 228) (L' := [some (.inr (.inr (some 79))), some (.inl p1), some (.inl p2), some (.inl (dt 80 (((5320 + (5 * p1)) + 2)).toNat)), some (.inl (dt 80 (((5320 + (5 * p1)) + 3)).toNat)), some (.inl (dt 80 (((5320 + (5 * p1)) + 4)).toNat))]) (st' := [.inl (dt 80 (((5320 + (5 * p1)) + 3)).toNat), .inr (.inr (some 92))]) (w' := (SH, dt)) rfl ?_
          have r31 : (-2147483648) ≤ dt 92 ((dt 80 (((5320 + (5 * p1)) + 3)).toNat).toNat) ∧ dt 92 ((dt 80 (((5320 + (5 * p1)) + 3)).toNat).toNat) ≤ 2147483647 := InvC_get hI 92 ((dt 80 (((5320 + (5 * p1)) + 3)).toNat).toNat) rfl rfl
          refine go_smpq PM194 (L' := [some (.inr (.inr (some 79))), some (.inl p1), some (.inl p2), some (.inl (dt 80 (((5320 + (5 * p1)) + 2)).toNat)), some (.inl (dt 80 (((5320 + (5 * p1)) + 3)).toNat)), some (.inl (dt 80 (((5320 + (5 * p1)) + 4)).toNat))]) (st' := [.inl (dt 92 ((dt 80 (((5320 + (5 * p1)) + 3)).toNat).toNat))]) (w' := (SH, dt)) rfl rfl (s_iald (n := 3) (f := dt 92) rfl ⟨by omega, by omega⟩) ?_
          refine go_toq PM194 (k := 1) (pc' := 244) (L' := [some (.inr (.inr (some 79))), some (.inl p1), some (.inl p2), some (.inl (dt 80 (((5320 + (5 * p1)) + 2)).toNat)), some (.inl (dt 80 (((5320 + (5 * p1)) + 3)).toNat)), some (.inl (dt 80 (((5320 + (5 * p1)) + 4)).toNat))]) (st' := [.inl (dt 92 ((dt 80 (((5320 + (5 * p1)) + 3)).toNat).toNat))]) (w' := (SH, dt)) rfl ?_
          exact GO.le (j27 (dt 92 ((dt 80 (((5320 + (5 * p1)) + 3)).toNat).toNat)) (by first | exact bnd r31 (by decide) (by decide) | fail)) ⟨.inl rfl, .inr ⟨rfl, trivial⟩, .inr ⟨rfl, trivial⟩, .inr ⟨rfl, trivial⟩, .inr ⟨rfl, trivial⟩, .inr ⟨rfl, trivial⟩, trivial⟩
      · refine go_swiq PM194 (v := 6) (p1 := 245) (lo := 0) (hi := 6) rfl c10 (by decide) rfl ?_
        have j35 : ∀ (j35_s0 : Int) (i36 : (-2147483648) ≤ j35_s0 ∧ j35_s0 ≤ 2147483647), GO (am_XX L xs sio) (d + 1) 194 282 [some (.inr (.inr (some 79))), none, none, none, none, none] [.inl j35_s0] (SH, dt) (fun r w2 => w2 = (SH, dt) ∧ ((∃ v : Int, r = some (.inl v) ∧ ((-2147483648) ≤ v ∧ v ≤ 2147483647) ∧ True))) := by
          intro j35_s0 i36
          refine go_retq PM194 (k := 0) (r := some (.inl j35_s0)) (w1 := (SH, dt)) rfl ?_
          exact ⟨rfl, ⟨_, rfl, (by first | exact bnd i36 (by decide) (by decide) | exact ⟨by fail, by fail⟩), trivial⟩⟩
        refine go_ifq PM194 (k := 2) (p1 := 265) (p2 := 251) (L' := [some (.inr (.inr (some 79))), some (.inl p1), some (.inl p2), some (.inl (dt 80 (((5320 + (5 * p1)) + 2)).toNat)), some (.inl (dt 80 (((5320 + (5 * p1)) + 3)).toNat)), some (.inl (dt 80 (((5320 + (5 * p1)) + 4)).toNat))]) (st' := []) (w' := (SH, dt)) rfl (c_ne (a := dt 80 (((5320 + (5 * p1)) + 4)).toNat) (b := (-1)) ⟨by omega, by omega⟩ ⟨by decide, by decide⟩) (fun c37 => ?_) (fun c37 => ?_)
        · skip
          replace c37 := hid c37
          refine go_toq PM194 (k := 11) (pc' := 281) (L' := [some (.inr (.inr (some 79))), some (.inl p1), some (.inl p2), some (.inl (dt 80 (((5320 + (5 * p1)) + 2)).toNat)), some (.inl (dt 80 (((5320 + (5 * p1)) + 3)).toNat)), some (.inl (dt 80 (((5320 + (5 * p1)) + 4)).toNat))]) (st' := [.inl (((12 * (dt 80 (((5320 + (5 * p1)) + 4)).toNat)) + (3 * (dt 80 (((5320 + (5 * p1)) + 2)).toNat))) + (dt 80 (((5320 + (5 * p1)) + 3)).toNat)), .inr (.inr (some 99))]) (w' := (SH, dt)) rfl ?_
          have r38 : (-2147483648) ≤ dt 99 ((((12 * (dt 80 (((5320 + (5 * p1)) + 4)).toNat)) + (3 * (dt 80 (((5320 + (5 * p1)) + 2)).toNat))) + (dt 80 (((5320 + (5 * p1)) + 3)).toNat)).toNat) ∧ dt 99 ((((12 * (dt 80 (((5320 + (5 * p1)) + 4)).toNat)) + (3 * (dt 80 (((5320 + (5 * p1)) + 2)).toNat))) + (dt 80 (((5320 + (5 * p1)) + 3)).toNat)).toNat) ≤ 2147483647 := InvC_get hI 99 ((((12 * (dt 80 (((5320 + (5 * p1)) + 4)).toNat)) + (3 * (dt 80 (((5320 + (5 * p1)) + 2)).toNat))) + (dt 80 (((5320 + (5 * p1)) + 3)).toNat)).toNat) rfl rfl
          refine go_smpq PM194 (L' := [some (.inr (.inr (some 79))), some (.inl p1), some (.inl p2), some (.inl (dt 80 (((5320 + (5 * p1)) + 2)).toNat)), some (.inl (dt 80 (((5320 + (5 * p1)) + 3)).toNat)), some (.inl (dt 80 (((5320 + (5 * p1)) + 4)).toNat))]) (st' := [.inl (dt 99 ((((12 * (dt 80 (((5320 + (5 * p1)) + 4)).toNat)) + (3 * (dt 80 (((5320 + (5 * p1)) + 2)).toNat))) + (dt 80 (((5320 + (5 * p1)) + 3)).toNat)).toNat))]) (w' := (SH, dt)) rfl rfl (s_iald (n := 48) (f := dt 99) rfl ⟨by (have z0_ := unhid c5; have z1_ := unhid c37; omega), by (have z_ := unhid c5; omega)⟩) ?_
          exact GO.le (j35 (dt 99 ((((12 * (dt 80 (((5320 + (5 * p1)) + 4)).toNat)) + (3 * (dt 80 (((5320 + (5 * p1)) + 2)).toNat))) + (dt 80 (((5320 + (5 * p1)) + 3)).toNat)).toNat)) (by first | exact bnd r38 (by decide) (by decide) | fail)) ⟨.inl rfl, .inr ⟨rfl, trivial⟩, .inr ⟨rfl, trivial⟩, .inr ⟨rfl, trivial⟩, .inr ⟨rfl, trivial⟩, .inr ⟨rfl, trivial⟩, trivial⟩
        · skip
          refine go_toq PM194 (k := 7) (pc' := 261) (L' := [some (.inr (.inr (some 79))), some (.inl p1), some (.inl p2), some (.inl (dt 80 (((5320 + (5 * p1)) + 2)).toNat)), some (.inl (dt 80 (((5320 + (5 * p1)) + 3)).toNat)), some (.inl (dt 80 (((5320 + (5 * p1)) + 4)).toNat))]) (st' := [.inl ((3 * (dt 80 (((5320 + (5 * p1)) + 2)).toNat)) + (dt 80 (((5320 + (5 * p1)) + 3)).toNat)), .inr (.inr (some 96))]) (w' := (SH, dt)) rfl ?_
          have r39 : (-2147483648) ≤ dt 96 (((3 * (dt 80 (((5320 + (5 * p1)) + 2)).toNat)) + (dt 80 (((5320 + (5 * p1)) + 3)).toNat)).toNat) ∧ dt 96 (((3 * (dt 80 (((5320 + (5 * p1)) + 2)).toNat)) + (dt 80 (((5320 + (5 * p1)) + 3)).toNat)).toNat) ≤ 2147483647 := InvC_get hI 96 (((3 * (dt 80 (((5320 + (5 * p1)) + 2)).toNat)) + (dt 80 (((5320 + (5 * p1)) + 3)).toNat)).toNat) rfl rfl
          refine go_smpq PM194 (L' := [some (.inr (.inr (some 79))), some (.inl p1), some (.inl p2), some (.inl (dt 80 (((5320 + (5 * p1)) + 2)).toNat)), some (.inl (dt 80 (((5320 + (5 * p1)) + 3)).toNat)), some (.inl (dt 80 (((5320 + (5 * p1)) + 4)).toNat))]) (st' := [.inl (dt 96 (((3 * (dt 80 (((5320 + (5 * p1)) + 2)).toNat)) + (dt 80 (((5320 + (5 * p1)) + 3)).toNat)).toNat))]) (w' := (SH, dt)) rfl rfl (s_iald (n := 12) (f := dt 96) rfl ⟨by omega, by omega⟩) ?_
          refine go_toq PM194 (k := 1) (pc' := 282) (L' := [some (.inr (.inr (some 79))), some (.inl p1), some (.inl p2), some (.inl (dt 80 (((5320 + (5 * p1)) + 2)).toNat)), some (.inl (dt 80 (((5320 + (5 * p1)) + 3)).toNat)), some (.inl (dt 80 (((5320 + (5 * p1)) + 4)).toNat))]) (st' := [.inl (dt 96 (((3 * (dt 80 (((5320 + (5 * p1)) + 2)).toNat)) + (dt 80 (((5320 + (5 * p1)) + 3)).toNat)).toNat))]) (w' := (SH, dt)) rfl ?_
          exact GO.le (j35 (dt 96 (((3 * (dt 80 (((5320 + (5 * p1)) + 2)).toNat)) + (dt 80 (((5320 + (5 * p1)) + 3)).toNat)).toNat)) (by first | exact bnd r39 (by decide) (by decide) | fail)) ⟨.inl rfl, .inr ⟨rfl, trivial⟩, .inr ⟨rfl, trivial⟩, .inr ⟨rfl, trivial⟩, .inr ⟨rfl, trivial⟩, .inr ⟨rfl, trivial⟩, trivial⟩
  · skip
    have j49 : ∀ (j49_s0 : Int) (i50 : (-2147483648) ≤ j49_s0 ∧ j49_s0 ≤ 2147483647), GO (am_XX L xs sio) (d + 1) 194 94 [some (.inr (.inr (some 79))), none, none, none, none, none] [.inl j49_s0] (SH, dt) (fun r w2 => w2 = (SH, dt) ∧ ((∃ v : Int, r = some (.inl v) ∧ ((-2147483648) ≤ v ∧ v ≤ 2147483647) ∧ True))) := by
      intro j49_s0 i50
      refine go_retq PM194 (k := 0) (r := some (.inl j49_s0)) (w1 := (SH, dt)) rfl ?_
      exact ⟨rfl, ⟨_, rfl, (by first | exact bnd i50 (by decide) (by decide) | exact ⟨by fail, by fail⟩), trivial⟩⟩
    refine go_ifq PM194 (k := 1) (p1 := 42) (p2 := 37) (L' := [some (.inr (.inr (some 79))), some (.inl p1), some (.inl p2), some (.inl (dt 80 (((5320 + (5 * p1)) + 2)).toNat)), some (.inl (dt 80 (((5320 + (5 * p1)) + 3)).toNat)), some (.inl (dt 80 (((5320 + (5 * p1)) + 4)).toNat))]) (st' := []) (w' := (SH, dt)) rfl (z_eq (a := p2) (by first | exact bnd h_p2 (by decide) (by decide) | exact ⟨by fail, by fail⟩)) (fun c51 => ?_) (fun c51 => ?_)
    · skip
      refine go_toq PM194 (k := 3) (pc' := 48) (L' := [some (.inr (.inr (some 79))), some (.inl p1), some (.inl p2), some (.inl (dt 80 (((5320 + (5 * p1)) + 2)).toNat)), some (.inl (dt 80 (((5320 + (5 * p1)) + 3)).toNat)), some (.inl (dt 80 (((5320 + (5 * p1)) + 4)).toNat))]) (st' := [.inl (dt 80 (((5320 + (5 * p1)) + 3)).toNat), .inr (.inr (some 92))]) (w' := (SH, dt)) rfl ?_
      have r52 : (-2147483648) ≤ dt 92 ((dt 80 (((5320 + (5 * p1)) + 3)).toNat).toNat) ∧ dt 92 ((dt 80 (((5320 + (5 * p1)) + 3)).toNat).toNat) ≤ 2147483647 := InvC_get hI 92 ((dt 80 (((5320 + (5 * p1)) + 3)).toNat).toNat) rfl rfl
      refine go_smpq PM194 (L' := [some (.inr (.inr (some 79))), some (.inl p1), some (.inl p2), some (.inl (dt 80 (((5320 + (5 * p1)) + 2)).toNat)), some (.inl (dt 80 (((5320 + (5 * p1)) + 3)).toNat)), some (.inl (dt 80 (((5320 + (5 * p1)) + 4)).toNat))]) (st' := [.inl (dt 92 ((dt 80 (((5320 + (5 * p1)) + 3)).toNat).toNat))]) (w' := (SH, dt)) rfl rfl (s_iald (n := 3) (f := dt 92) rfl ⟨by omega, by omega⟩) ?_
      refine go_toq PM194 (k := 1) (pc' := 94) (L' := [some (.inr (.inr (some 79))), some (.inl p1), some (.inl p2), some (.inl (dt 80 (((5320 + (5 * p1)) + 2)).toNat)), some (.inl (dt 80 (((5320 + (5 * p1)) + 3)).toNat)), some (.inl (dt 80 (((5320 + (5 * p1)) + 4)).toNat))]) (st' := [.inl (dt 92 ((dt 80 (((5320 + (5 * p1)) + 3)).toNat).toNat))]) (w' := (SH, dt)) rfl ?_
      exact GO.le (j49 (dt 92 ((dt 80 (((5320 + (5 * p1)) + 3)).toNat).toNat)) (by first | exact bnd r52 (by decide) (by decide) | fail)) ⟨.inl rfl, .inr ⟨rfl, trivial⟩, .inr ⟨rfl, trivial⟩, .inr ⟨rfl, trivial⟩, .inr ⟨rfl, trivial⟩, .inr ⟨rfl, trivial⟩, trivial⟩
    · skip
      have qc51 : 1 ≤ p2 := by omega
      replace c51 := hid c51
      refine go_ifq PM194 (k := 2) (p1 := 52) (p2 := 42) (L' := [some (.inr (.inr (some 79))), some (.inl p1), some (.inl p2), some (.inl (dt 80 (((5320 + (5 * p1)) + 2)).toNat)), some (.inl (dt 80 (((5320 + (5 * p1)) + 3)).toNat)), some (.inl (dt 80 (((5320 + (5 * p1)) + 4)).toNat))]) (st' := []) (w' := (SH, dt)) rfl (c_ne (a := p2) (b := 5) (by first | exact bnd h_p2 (by decide) (by decide) | exact ⟨by fail, by fail⟩) ⟨by decide, by decide⟩) (fun c53 => ?_) (fun c53 => ?_)
      · skip
        replace c53 := hid c53
        refine go_ifq PM194 (k := 2) (p1 := 67) (p2 := 57) (L' := [some (.inr (.inr (some 79))), some (.inl p1), some (.inl p2), some (.inl (dt 80 (((5320 + (5 * p1)) + 2)).toNat)), some (.inl (dt 80 (((5320 + (5 * p1)) + 3)).toNat)), some (.inl (dt 80 (((5320 + (5 * p1)) + 4)).toNat))]) (st' := []) (w' := (SH, dt)) rfl (c_ne (a := p2) (b := 4) (by first | exact bnd h_p2 (by decide) (by decide) | exact ⟨by fail, by fail⟩) ⟨by decide, by decide⟩) (fun c54 => ?_) (fun c54 => ?_)
        · skip
          replace c54 := hid c54
          refine go_ifq PM194 (k := 2) (p1 := 83) (p2 := 73) (L' := [some (.inr (.inr (some 79))), some (.inl p1), some (.inl p2), some (.inl (dt 80 (((5320 + (5 * p1)) + 2)).toNat)), some (.inl (dt 80 (((5320 + (5 * p1)) + 3)).toNat)), some (.inl (dt 80 (((5320 + (5 * p1)) + 4)).toNat))]) (st' := []) (w' := (SH, dt)) rfl (c_ne (a := p2) (b := 7) (by first | exact bnd h_p2 (by decide) (by decide) | exact ⟨by fail, by fail⟩) ⟨by decide, by decide⟩) (fun c55 => ?_) (fun c55 => ?_)
          · skip
            have qc55 : p2 ≤ 6 := by omega
            replace c55 := hid c55
            refine go_toq PM194 (k := 7) (pc' := 93) (L' := [some (.inr (.inr (some 79))), some (.inl p1), some (.inl p2), some (.inl (dt 80 (((5320 + (5 * p1)) + 2)).toNat)), some (.inl (dt 80 (((5320 + (5 * p1)) + 3)).toNat)), some (.inl (dt 80 (((5320 + (5 * p1)) + 4)).toNat))]) (st' := [.inl ((3 * (dt 80 (((5320 + (5 * p1)) + 2)).toNat)) + (dt 80 (((5320 + (5 * p1)) + 3)).toNat)), .inr (.inr (some 100))]) (w' := (SH, dt)) rfl ?_
            have r56 : (-2147483648) ≤ dt 100 (((3 * (dt 80 (((5320 + (5 * p1)) + 2)).toNat)) + (dt 80 (((5320 + (5 * p1)) + 3)).toNat)).toNat) ∧ dt 100 (((3 * (dt 80 (((5320 + (5 * p1)) + 2)).toNat)) + (dt 80 (((5320 + (5 * p1)) + 3)).toNat)).toNat) ≤ 2147483647 := InvC_get hI 100 (((3 * (dt 80 (((5320 + (5 * p1)) + 2)).toNat)) + (dt 80 (((5320 + (5 * p1)) + 3)).toNat)).toNat) rfl rfl
            refine go_smpq PM194 (L' := [some (.inr (.inr (some 79))), some (.inl p1), some (.inl p2), some (.inl (dt 80 (((5320 + (5 * p1)) + 2)).toNat)), some (.inl (dt 80 (((5320 + (5 * p1)) + 3)).toNat)), some (.inl (dt 80 (((5320 + (5 * p1)) + 4)).toNat))]) (st' := [.inl (dt 100 (((3 * (dt 80 (((5320 + (5 * p1)) + 2)).toNat)) + (dt 80 (((5320 + (5 * p1)) + 3)).toNat)).toNat))]) (w' := (SH, dt)) rfl rfl (s_iald (n := 6) (f := dt 100) rfl ⟨by omega, by omega⟩) ?_
            exact GO.le (j49 (dt 100 (((3 * (dt 80 (((5320 + (5 * p1)) + 2)).toNat)) + (dt 80 (((5320 + (5 * p1)) + 3)).toNat)).toNat)) (by first | exact bnd r56 (by decide) (by decide) | fail)) ⟨.inl rfl, .inr ⟨rfl, trivial⟩, .inr ⟨rfl, trivial⟩, .inr ⟨rfl, trivial⟩, .inr ⟨rfl, trivial⟩, .inr ⟨rfl, trivial⟩, trivial⟩
          · skip
            refine go_toq PM194 (k := 3) (pc' := 79) (L' := [some (.inr (.inr (some 79))), some (.inl p1), some (.inl p2), some (.inl (dt 80 (((5320 + (5 * p1)) + 2)).toNat)), some (.inl (dt 80 (((5320 + (5 * p1)) + 3)).toNat)), some (.inl (dt 80 (((5320 + (5 * p1)) + 4)).toNat))]) (st' := [.inl (dt 80 (((5320 + (5 * p1)) + 3)).toNat), .inr (.inr (some 95))]) (w' := (SH, dt)) rfl ?_
            have r57 : (-2147483648) ≤ dt 95 ((dt 80 (((5320 + (5 * p1)) + 3)).toNat).toNat) ∧ dt 95 ((dt 80 (((5320 + (5 * p1)) + 3)).toNat).toNat) ≤ 2147483647 := InvC_get hI 95 ((dt 80 (((5320 + (5 * p1)) + 3)).toNat).toNat) rfl rfl
            refine go_smpq PM194 (L' := [some (.inr (.inr (some 79))), some (.inl p1), some (.inl p2), some (.inl (dt 80 (((5320 + (5 * p1)) + 2)).toNat)), some (.inl (dt 80 (((5320 + (5 * p1)) + 3)).toNat)), some (.inl (dt 80 (((5320 + (5 * p1)) + 4)).toNat))]) (st' := [.inl (dt 95 ((dt 80 (((5320 + (5 * p1)) + 3)).toNat).toNat))]) (w' := (SH, dt)) rfl rfl (s_iald (n := 3) (f := dt 95) rfl ⟨by omega, by omega⟩) ?_
            refine go_toq PM194 (k := 1) (pc' := 94) (L' := [some (.inr (.inr (some 79))), some (.inl p1), some (.inl p2), some (.inl (dt 80 (((5320 + (5 * p1)) + 2)).toNat)), some (.inl (dt 80 (((5320 + (5 * p1)) + 3)).toNat)), some (.inl (dt 80 (((5320 + (5 * p1)) + 4)).toNat))]) (st' := [.inl (dt 95 ((dt 80 (((5320 + (5 * p1)) + 3)).toNat).toNat))]) (w' := (SH, dt)) rfl ?_
            exact GO.le (j49 (dt 95 ((dt 80 (((5320 + (5 * p1)) + 3)).toNat).toNat)) (by first | exact bnd r57 (by decide) (by decide) | fail)) ⟨.inl rfl, .inr ⟨rfl, trivial⟩, .inr ⟨rfl, trivial⟩, .inr ⟨rfl, trivial⟩, .inr ⟨rfl, trivial⟩, .inr ⟨rfl, trivial⟩, trivial⟩
        · skip
          refine go_toq PM194 (k := 3) (pc' := 63) (L' := [some (.inr (.inr (some 79))), some (.inl p1), some (.inl p2), some (.inl (dt 80 (((5320 + (5 * p1)) + 2)).toNat)), some (.inl (dt 80 (((5320 + (5 * p1)) + 3)).toNat)), some (.inl (dt 80 (((5320 + (5 * p1)) + 4)).toNat))]) (st' := [.inl (dt 80 (((5320 + (5 * p1)) + 3)).toNat), .inr (.inr (some 94))]) (w' := (SH, dt)) rfl ?_
          have r58 : (-2147483648) ≤ dt 94 ((dt 80 (((5320 + (5 * p1)) + 3)).toNat).toNat) ∧ dt 94 ((dt 80 (((5320 + (5 * p1)) + 3)).toNat).toNat) ≤ 2147483647 := InvC_get hI 94 ((dt 80 (((5320 + (5 * p1)) + 3)).toNat).toNat) rfl rfl
          refine go_smpq PM194 (L' := [some (.inr (.inr (some 79))), some (.inl p1), some (.inl p2), some (.inl (dt 80 (((5320 + (5 * p1)) + 2)).toNat)), some (.inl (dt 80 (((5320 + (5 * p1)) + 3)).toNat)), some (.inl (dt 80 (((5320 + (5 * p1)) + 4)).toNat))]) (st' := [.inl (dt 94 ((dt 80 (((5320 + (5 * p1)) + 3)).toNat).toNat))]) (w' := (SH, dt)) rfl rfl (s_iald (n := 3) (f := dt 94) rfl ⟨by omega, by omega⟩) ?_
          refine go_toq PM194 (k := 1) (pc' := 94) (L' := [some (.inr (.inr (some 79))), some (.inl p1), some (.inl p2), some (.inl (dt 80 (((5320 + (5 * p1)) + 2)).toNat)), some (.inl (dt 80 (((5320 + (5 * p1)) + 3)).toNat)), some (.inl (dt 80 (((5320 + (5 * p1)) + 4)).toNat))]) (st' := [.inl (dt 94 ((dt 80 (((5320 + (5 * p1)) + 3)).toNat).toNat))]) (w' := (SH, dt)) rfl ?_
          exact GO.le (j49 (dt 94 ((dt 80 (((5320 + (5 * p1)) + 3)).toNat).toNat)) (by first | exact bnd r58 (by decide) (by decide) | fail)) ⟨.inl rfl, .inr ⟨rfl, trivial⟩, .inr ⟨rfl, trivial⟩, .inr ⟨rfl, trivial⟩, .inr ⟨rfl, trivial⟩, .inr ⟨rfl, trivial⟩, trivial⟩
      · skip
        refine go_toq PM194 (k := 3) (pc' := 48) (L' := [some (.inr (.inr (some 79))), some (.inl p1), some (.inl p2), some (.inl (dt 80 (((5320 + (5 * p1)) + 2)).toNat)), some (.inl (dt 80 (((5320 + (5 * p1)) + 3)).toNat)), some (.inl (dt 80 (((5320 + (5 * p1)) + 4)).toNat))]) (st' := [.inl (dt 80 (((5320 + (5 * p1)) + 3)).toNat), .inr (.inr (some 92))]) (w' := (SH, dt)) rfl ?_
        have r59 : (-2147483648) ≤ dt 92 ((dt 80 (((5320 + (5 * p1)) + 3)).toNat).toNat) ∧ dt 92 ((dt 80 (((5320 + (5 * p1)) + 3)).toNat).toNat) ≤ 2147483647 := InvC_get hI 92 ((dt 80 (((5320 + (5 * p1)) + 3)).toNat).toNat) rfl rfl
        refine go_smpq PM194 (L' := [some (.inr (.inr (some 79))), some (.inl p1), some (.inl p2), some (.inl (dt 80 (((5320 + (5 * p1)) + 2)).toNat)), some (.inl (dt 80 (((5320 + (5 * p1)) + 3)).toNat)), some (.inl (dt 80 (((5320 + (5 * p1)) + 4)).toNat))]) (st' := [.inl (dt 92 ((dt 80 (((5320 + (5 * p1)) + 3)).toNat).toNat))]) (w' := (SH, dt)) rfl rfl (s_iald (n := 3) (f := dt 92) rfl ⟨by omega, by omega⟩) ?_
        refine go_toq PM194 (k := 1) (pc' := 94) (L' := [some (.inr (.inr (some 79))), some (.inl p1), some (.inl p2), some (.inl (dt 80 (((5320 + (5 * p1)) + 2)).toNat)), some (.inl (dt 80 (((5320 + (5 * p1)) + 3)).toNat)), some (.inl (dt 80 (((5320 + (5 * p1)) + 4)).toNat))]) (st' := [.inl (dt 92 ((dt 80 (((5320 + (5 * p1)) + 3)).toNat).toNat))]) (w' := (SH, dt)) rfl ?_
        exact GO.le (j49 (dt 92 ((dt 80 (((5320 + (5 * p1)) + 3)).toNat).toNat)) (by first | exact bnd r59 (by decide) (by decide) | fail)) ⟨.inl rfl, .inr ⟨rfl, trivial⟩, .inr ⟨rfl, trivial⟩, .inr ⟨rfl, trivial⟩, .inr ⟨rfl, trivial⟩, .inr ⟨rfl, trivial⟩, trivial⟩
set_option maxRecDepth 20000 in
theorem sp_X6_tellsSome (L : Nat) (xs : Nat → Int32) (sio : Option Nat) (d : Nat) (dt : Nat → Nat → Int) (hI : InvC dt) (hM : MW (dt 80))  (p1 : Int) (h_p1 : 0 ≤ p1 ∧ p1 ≤ 11)  : GO (am_XX L xs sio) (d + 5) 196 0 [some (.inr (.inr (some 79))), some (.inl p1)] [] (SH, dt) (fun r w2 => ∃ dt2 : Nat → Nat → Int, w2 = (SH, dt2) ∧ InvC dt2 ∧ Fr [88, 89, 90, 91, 92, 93, 94, 95, 96, 97, 98, 99, 100] dt dt2 ∧ ((r = some (.inl 1) ∧ True) ∨ (r = some (.inl 0) ∧ True))) := by
  have hF : Fr [88, 89, 90, 91, 92, 93, 94, 95, 96, 97, 98, 99, 100] dt dt := Fr_refl
  refine go_toq PM196 (k := 4) (pc' := 4) (L' := [some (.inr (.inr (some 79))), some (.inl p1)]) (st' := [.inl 0, .inl p1, .inr (.inr (some 79)), .inr (.inr (some 79))]) (w' := (SH, dt)) rfl ?_
  refine go_callq PM196 PM191 (Q' := _) rfl rfl rfl rfl (sp_X6_asked_0 L xs sio (d + 4) dt hI hM  p1 (by first | exact h_p1 | exact bnd h_p1 (by decide) (by decide) | exact ⟨by fail, by fail⟩) ) ?_
  rintro _ _ ⟨rfl, h1⟩
  refine ⟨rfl, ?_⟩
  rcases h1 with ⟨rfl, h1⟩
  refine go_callq PM196 PM184 (Q' := _) rfl rfl rfl rfl (sp_X6_goes L xs sio (d + 0) dt hI hM  (dt 80 (((5320 + (5 * p1)) + 0)).toNat) ⟨by omega, by omega⟩ ) ?_
  rintro _ _ ⟨dt3, rfl, hI4, hF5, h2⟩
  refine ⟨rfl, ?_⟩
  have hF6 : Fr [88, 89, 90, 91, 92, 93, 94, 95, 96, 97, 98, 99, 100] dt dt3 := Fr_tr hF hF5 (by decide)
  rcases h2 with ⟨rfl, h2⟩
  refine go_toq PM196 (k := 3) (pc' := 13) (L' := [some (.inr (.inr (some 79))), some (.inl p1)]) (st' := [.inl 1, .inl p1, .inr (.inr (some 79))]) (w' := (SH, dt3)) rfl ?_
  refine go_callq PM196 PM194 (Q' := _) rfl rfl rfl rfl (sp_X6_saysNow L xs sio (d + 3) dt3 hI4 (MW_fr hM hF6 (by decide))  p1 (by first | exact h_p1 | exact bnd h_p1 (by decide) (by decide) | exact ⟨by fail, by fail⟩) 1 ⟨by decide, by decide⟩ ) ?_
  rintro _ _ ⟨rfl, h7⟩
  refine ⟨rfl, ?_⟩
  rcases h7 with ⟨v_h7, rfl, h7r, h7⟩
  refine go_toq PM196 (k := 3) (pc' := 19) (L' := [some (.inr (.inr (some 79))), some (.inl p1)]) (st' := [.inl 0, .inl p1, .inr (.inr (some 79)), .inl v_h7]) (w' := (SH, dt3)) rfl ?_
  refine go_callq PM196 PM194 (Q' := _) rfl rfl rfl rfl (sp_X6_saysNow L xs sio (d + 3) dt3 hI4 (MW_fr hM hF6 (by decide))  p1 (by first | exact h_p1 | exact bnd h_p1 (by decide) (by decide) | exact ⟨by fail, by fail⟩) 0 ⟨by decide, by decide⟩ ) ?_
  rintro _ _ ⟨rfl, h8⟩
  refine ⟨rfl, ?_⟩
  rcases h8 with ⟨v_h8, rfl, h8r, h8⟩
  refine go_ifq PM196 (k := 0) (p1 := 29) (p2 := 25) (L' := [some (.inr (.inr (some 79))), some (.inl p1)]) (st' := []) (w' := (SH, dt3)) rfl (c_eq (a := v_h7) (b := v_h8) (by first | exact bnd h7r (by decide) (by decide) | exact ⟨by fail, by fail⟩) (by first | exact bnd h8r (by decide) (by decide) | exact ⟨by fail, by fail⟩)) (fun c10 => ?_) (fun c10 => ?_)
  · skip
    refine go_retq PM196 (k := 1) (r := some (.inl 0)) (w1 := (SH, dt3)) rfl ?_
    exact ⟨dt3, rfl, hI4, hF6, (Or.inr ⟨rfl, trivial⟩)⟩
  · skip
    replace c10 := hid c10
    refine go_retq PM196 (k := 2) (r := some (.inl 1)) (w1 := (SH, dt3)) rfl ?_
    exact ⟨dt3, rfl, hI4, hF6, (Or.inl ⟨rfl, trivial⟩)⟩
set_option maxRecDepth 20000 in
theorem sp_X6_gathers (L : Nat) (xs : Nat → Int32) (sio : Option Nat) (d : Nat) (dt : Nat → Nat → Int) (hI : InvC dt) (hM : MW (dt 80))  (p1 : Int) (h_p1 : 0 ≤ p1 ∧ p1 ≤ 39) (p2 : Int) (h_p2 : 0 ≤ p2 ∧ p2 ≤ 11) (p3 : Int) (h_p3 : 0 ≤ p3 ∧ p3 ≤ 3)  : GO (am_XX L xs sio) (d + 5) 205 0 [some (.inr (.inr (some 79))), some (.inl p1), some (.inl p2), some (.inl p3)] [] (SH, dt) (fun r w2 => ∃ dt2 : Nat → Nat → Int, w2 = (SH, dt2) ∧ InvC dt2 ∧ Fr [87, 88, 89, 90, 91, 92, 93, 94, 95, 96, 97, 98, 99, 100] dt dt2 ∧ ((r = none ∧ True))) := by
  have hF : Fr [87, 88, 89, 90, 91, 92, 93, 94, 95, 96, 97, 98, 99, 100] dt dt := Fr_refl
  refine go_toq PM205 (k := 4) (pc' := 4) (L' := [some (.inr (.inr (some 79))), some (.inl p1), some (.inl p2), some (.inl p3)]) (st' := [.inl 0, .inl p2, .inr (.inr (some 79)), .inr (.inr (some 79))]) (w' := (SH, dt)) rfl ?_
  refine go_callq PM205 PM191 (Q' := _) rfl rfl rfl rfl (sp_X6_asked_0 L xs sio (d + 4) dt hI hM  p2 (by first | exact h_p2 | exact bnd h_p2 (by decide) (by decide) | exact ⟨by fail, by fail⟩) ) ?_
  rintro _ _ ⟨rfl, h1⟩
  refine ⟨rfl, ?_⟩
  rcases h1 with ⟨rfl, h1⟩
  refine go_callq PM205 PM184 (Q' := _) rfl rfl rfl rfl (sp_X6_goes L xs sio (d + 0) dt hI hM  (dt 80 (((5320 + (5 * p2)) + 0)).toNat) ⟨by omega, by omega⟩ ) ?_
  rintro _ _ ⟨dt3, rfl, hI4, hF5, h2⟩
  refine ⟨rfl, ?_⟩
  have hF6 : Fr [87, 88, 89, 90, 91, 92, 93, 94, 95, 96, 97, 98, 99, 100] dt dt3 := Fr_tr hF hF5 (by decide)
  rcases h2 with ⟨rfl, h2⟩
  refine go_toq PM205 (k := 6) (pc' := 18) (L' := [some (.inr (.inr (some 79))), some (.inl p1), some (.inl p2), some (.inl p3)]) (st' := [.inl 1, .inl p1, .inr (.inr (some 79)), .inl 1, .inr (.inr (some 87))]) (w' := (SH, dt3)) rfl ?_
  refine go_callq PM205 PM198 (Q' := _) rfl rfl rfl rfl (sp_X6_ofChild_1 L xs sio (d + 4) dt3 hI4 (MW_fr hM hF6 (by decide))  p1 (by first | exact h_p1 | exact bnd h_p1 (by decide) (by decide) | exact ⟨by fail, by fail⟩) ) ?_
  rintro _ _ ⟨rfl, h7⟩
  refine ⟨rfl, ?_⟩
  rcases h7 with ⟨rfl, h7⟩
  have hI8 : InvC (u2 dt3 87 1 (dt3 80 (((5380 + (4 * p1)) + 1)).toNat)) := InvC_u2 hI4 (lo := -2147483648) (hi := 2147483647) rfl rfl rfl (by omega) (by omega)
  have hF9 : Fr [87, 88, 89, 90, 91, 92, 93, 94, 95, 96, 97, 98, 99, 100] dt (u2 dt3 87 1 (dt3 80 (((5380 + (4 * p1)) + 1)).toNat)) := Fr_u2 hF6 (by decide)
  refine go_smpq PM205 (L' := [some (.inr (.inr (some 79))), some (.inl p1), some (.inl p2), some (.inl p3)]) (st' := []) (w' := (SH, (u2 dt3 87 1 (dt3 80 (((5380 + (4 * p1)) + 1)).toNat)))) rfl rfl (s_iast (n := 7) rfl ⟨by omega, by omega⟩ ⟨by omega, by omega⟩) ?_
  refine go_toq PM205 (k := 6) (pc' := 30) (L' := [some (.inr (.inr (some 79))), some (.inl p1), some (.inl p2), some (.inl p3)]) (st' := [.inl 2, .inl p1, .inr (.inr (some 79)), .inl 2, .inr (.inr (some 87))]) (w' := (SH, (u2 dt3 87 1 (dt3 80 (((5380 + (4 * p1)) + 1)).toNat)))) rfl ?_
  refine go_callq PM205 PM198 (Q' := _) rfl rfl rfl rfl (sp_X6_ofChild_2 L xs sio (d + 4) (u2 dt3 87 1 (dt3 80 (((5380 + (4 * p1)) + 1)).toNat)) hI8 (MW_fr hM hF9 (by decide))  p1 (by first | exact h_p1 | exact bnd h_p1 (by decide) (by decide) | exact ⟨by fail, by fail⟩) ) ?_
  rintro _ _ ⟨rfl, h10⟩
  refine ⟨rfl, ?_⟩
  rcases h10 with ⟨rfl, h10⟩
  have hI11 : InvC (u2 (u2 dt3 87 1 (dt3 80 (((5380 + (4 * p1)) + 1)).toNat)) 87 2 ((u2 dt3 87 1 (dt3 80 (((5380 + (4 * p1)) + 1)).toNat)) 80 (((5380 + (4 * p1)) + 2)).toNat)) := InvC_u2 hI8 (lo := -2147483648) (hi := 2147483647) rfl rfl rfl (by omega) (by omega)
  have hF12 : Fr [87, 88, 89, 90, 91, 92, 93, 94, 95, 96, 97, 98, 99, 100] dt (u2 (u2 dt3 87 1 (dt3 80 (((5380 + (4 * p1)) + 1)).toNat)) 87 2 ((u2 dt3 87 1 (dt3 80 (((5380 + (4 * p1)) + 1)).toNat)) 80 (((5380 + (4 * p1)) + 2)).toNat)) := Fr_u2 hF9 (by decide)
  refine go_smpq PM205 (L' := [some (.inr (.inr (some 79))), some (.inl p1), some (.inl p2), some (.inl p3)]) (st' := []) (w' := (SH, (u2 (u2 dt3 87 1 (dt3 80 (((5380 + (4 * p1)) + 1)).toNat)) 87 2 ((u2 dt3 87 1 (dt3 80 (((5380 + (4 * p1)) + 1)).toNat)) 80 (((5380 + (4 * p1)) + 2)).toNat)))) rfl rfl (s_iast (n := 7) rfl ⟨by omega, by omega⟩ ⟨by omega, by omega⟩) ?_
  refine go_toq PM205 (k := 6) (pc' := 42) (L' := [some (.inr (.inr (some 79))), some (.inl p1), some (.inl p2), some (.inl p3)]) (st' := [.inl 3, .inl p1, .inr (.inr (some 79)), .inl 5, .inr (.inr (some 87))]) (w' := (SH, (u2 (u2 dt3 87 1 (dt3 80 (((5380 + (4 * p1)) + 1)).toNat)) 87 2 ((u2 dt3 87 1 (dt3 80 (((5380 + (4 * p1)) + 1)).toNat)) 80 (((5380 + (4 * p1)) + 2)).toNat)))) rfl ?_
  refine go_callq PM205 PM198 (Q' := _) rfl rfl rfl rfl (sp_X6_ofChild_3 L xs sio (d + 4) (u2 (u2 dt3 87 1 (dt3 80 (((5380 + (4 * p1)) + 1)).toNat)) 87 2 ((u2 dt3 87 1 (dt3 80 (((5380 + (4 * p1)) + 1)).toNat)) 80 (((5380 + (4 * p1)) + 2)).toNat)) hI11 (MW_fr hM hF12 (by decide))  p1 (by first | exact h_p1 | exact bnd h_p1 (by decide) (by decide) | exact ⟨by fail, by fail⟩) ) ?_
  rintro _ _ ⟨rfl, h13⟩
  refine ⟨rfl, ?_⟩
  rcases h13 with ⟨rfl, h13⟩
  have hI14 : InvC (u2 (u2 (u2 dt3 87 1 (dt3 80 (((5380 + (4 * p1)) + 1)).toNat)) 87 2 ((u2 dt3 87 1 (dt3 80 (((5380 + (4 * p1)) + 1)).toNat)) 80 (((5380 + (4 * p1)) + 2)).toNat)) 87 5 ((u2 (u2 dt3 87 1 (dt3 80 (((5380 + (4 * p1)) + 1)).toNat)) 87 2 ((u2 dt3 87 1 (dt3 80 (((5380 + (4 * p1)) + 1)).toNat)) 80 (((5380 + (4 * p1)) + 2)).toNat)) 80 (((5380 + (4 * p1)) + 3)).toNat)) := InvC_u2 hI11 (lo := -2147483648) (hi := 2147483647) rfl rfl rfl (by omega) (by omega)
  have hF15 : Fr [87, 88, 89, 90, 91, 92, 93, 94, 95, 96, 97, 98, 99, 100] dt (u2 (u2 (u2 dt3 87 1 (dt3 80 (((5380 + (4 * p1)) + 1)).toNat)) 87 2 ((u2 dt3 87 1 (dt3 80 (((5380 + (4 * p1)) + 1)).toNat)) 80 (((5380 + (4 * p1)) + 2)).toNat)) 87 5 ((u2 (u2 dt3 87 1 (dt3 80 (((5380 + (4 * p1)) + 1)).toNat)) 87 2 ((u2 dt3 87 1 (dt3 80 (((5380 + (4 * p1)) + 1)).toNat)) 80 (((5380 + (4 * p1)) + 2)).toNat)) 80 (((5380 + (4 * p1)) + 3)).toNat)) := Fr_u2 hF12 (by decide)
  refine go_smpq PM205 (L' := [some (.inr (.inr (some 79))), some (.inl p1), some (.inl p2), some (.inl p3)]) (st' := []) (w' := (SH, (u2 (u2 (u2 dt3 87 1 (dt3 80 (((5380 + (4 * p1)) + 1)).toNat)) 87 2 ((u2 dt3 87 1 (dt3 80 (((5380 + (4 * p1)) + 1)).toNat)) 80 (((5380 + (4 * p1)) + 2)).toNat)) 87 5 ((u2 (u2 dt3 87 1 (dt3 80 (((5380 + (4 * p1)) + 1)).toNat)) 87 2 ((u2 dt3 87 1 (dt3 80 (((5380 + (4 * p1)) + 1)).toNat)) 80 (((5380 + (4 * p1)) + 2)).toNat)) 80 (((5380 + (4 * p1)) + 3)).toNat)))) rfl rfl (s_iast (n := 7) rfl ⟨by omega, by omega⟩ ⟨by omega, by omega⟩) ?_
  refine go_toq PM205 (k := 4) (pc' := 52) (L' := [some (.inr (.inr (some 79))), some (.inl p1), some (.inl p2), some (.inl p3)]) (st' := [.inl p3, .inl 3, .inr (.inr (some 87))]) (w' := (SH, (u2 (u2 (u2 dt3 87 1 (dt3 80 (((5380 + (4 * p1)) + 1)).toNat)) 87 2 ((u2 dt3 87 1 (dt3 80 (((5380 + (4 * p1)) + 1)).toNat)) 80 (((5380 + (4 * p1)) + 2)).toNat)) 87 5 ((u2 (u2 dt3 87 1 (dt3 80 (((5380 + (4 * p1)) + 1)).toNat)) 87 2 ((u2 dt3 87 1 (dt3 80 (((5380 + (4 * p1)) + 1)).toNat)) 80 (((5380 + (4 * p1)) + 2)).toNat)) 80 (((5380 + (4 * p1)) + 3)).toNat)))) rfl ?_
  have hI16 : InvC (u2 (u2 (u2 (u2 dt3 87 1 (dt3 80 (((5380 + (4 * p1)) + 1)).toNat)) 87 2 ((u2 dt3 87 1 (dt3 80 (((5380 + (4 * p1)) + 1)).toNat)) 80 (((5380 + (4 * p1)) + 2)).toNat)) 87 5 ((u2 (u2 dt3 87 1 (dt3 80 (((5380 + (4 * p1)) + 1)).toNat)) 87 2 ((u2 dt3 87 1 (dt3 80 (((5380 + (4 * p1)) + 1)).toNat)) 80 (((5380 + (4 * p1)) + 2)).toNat)) 80 (((5380 + (4 * p1)) + 3)).toNat)) 87 3 p3) := InvC_u2 hI14 (lo := -2147483648) (hi := 2147483647) rfl rfl rfl (by first | exact bnd1 h_p3 (by decide) | fail) (by first | exact bnd2 h_p3 (by decide) | fail)
  have hF17 : Fr [87, 88, 89, 90, 91, 92, 93, 94, 95, 96, 97, 98, 99, 100] dt (u2 (u2 (u2 (u2 dt3 87 1 (dt3 80 (((5380 + (4 * p1)) + 1)).toNat)) 87 2 ((u2 dt3 87 1 (dt3 80 (((5380 + (4 * p1)) + 1)).toNat)) 80 (((5380 + (4 * p1)) + 2)).toNat)) 87 5 ((u2 (u2 dt3 87 1 (dt3 80 (((5380 + (4 * p1)) + 1)).toNat)) 87 2 ((u2 dt3 87 1 (dt3 80 (((5380 + (4 * p1)) + 1)).toNat)) 80 (((5380 + (4 * p1)) + 2)).toNat)) 80 (((5380 + (4 * p1)) + 3)).toNat)) 87 3 p3) := Fr_u2 hF15 (by decide)
  refine go_smpq PM205 (L' := [some (.inr (.inr (some 79))), some (.inl p1), some (.inl p2), some (.inl p3)]) (st' := []) (w' := (SH, (u2 (u2 (u2 (u2 dt3 87 1 (dt3 80 (((5380 + (4 * p1)) + 1)).toNat)) 87 2 ((u2 dt3 87 1 (dt3 80 (((5380 + (4 * p1)) + 1)).toNat)) 80 (((5380 + (4 * p1)) + 2)).toNat)) 87 5 ((u2 (u2 dt3 87 1 (dt3 80 (((5380 + (4 * p1)) + 1)).toNat)) 87 2 ((u2 dt3 87 1 (dt3 80 (((5380 + (4 * p1)) + 1)).toNat)) 80 (((5380 + (4 * p1)) + 2)).toNat)) 80 (((5380 + (4 * p1)) + 3)).toNat)) 87 3 p3))) rfl rfl (s_iast (n := 7) rfl ⟨by decide, by decide⟩ (by first | exact bnd h_p3 (by decide) (by decide) | exact ⟨by fail, by fail⟩)) ?_
  refine go_toq PM205 (k := 6) (pc' := 63) (L' := [some (.inr (.inr (some 79))), some (.inl p1), some (.inl p2), some (.inl p3)]) (st' := [.inl 0, .inr (.inr (some 93)), .inl 4, .inr (.inr (some 87))]) (w' := (SH, (u2 (u2 (u2 (u2 dt3 87 1 (dt3 80 (((5380 + (4 * p1)) + 1)).toNat)) 87 2 ((u2 dt3 87 1 (dt3 80 (((5380 + (4 * p1)) + 1)).toNat)) 80 (((5380 + (4 * p1)) + 2)).toNat)) 87 5 ((u2 (u2 dt3 87 1 (dt3 80 (((5380 + (4 * p1)) + 1)).toNat)) 87 2 ((u2 dt3 87 1 (dt3 80 (((5380 + (4 * p1)) + 1)).toNat)) 80 (((5380 + (4 * p1)) + 2)).toNat)) 80 (((5380 + (4 * p1)) + 3)).toNat)) 87 3 p3))) rfl ?_
  have r18 : (-2147483648) ≤ dt3 93 0 ∧ dt3 93 0 ≤ 2147483647 := InvC_get hI4 93 0 rfl rfl
  refine go_smpq PM205 (L' := [some (.inr (.inr (some 79))), some (.inl p1), some (.inl p2), some (.inl p3)]) (st' := [.inl (dt3 93 0), .inl 4, .inr (.inr (some 87))]) (w' := (SH, (u2 (u2 (u2 (u2 dt3 87 1 (dt3 80 (((5380 + (4 * p1)) + 1)).toNat)) 87 2 ((u2 dt3 87 1 (dt3 80 (((5380 + (4 * p1)) + 1)).toNat)) 80 (((5380 + (4 * p1)) + 2)).toNat)) 87 5 ((u2 (u2 dt3 87 1 (dt3 80 (((5380 + (4 * p1)) + 1)).toNat)) 87 2 ((u2 dt3 87 1 (dt3 80 (((5380 + (4 * p1)) + 1)).toNat)) 80 (((5380 + (4 * p1)) + 2)).toNat)) 80 (((5380 + (4 * p1)) + 3)).toNat)) 87 3 p3))) rfl rfl (s_iald (n := 3) (f := (u2 (u2 (u2 (u2 dt3 87 1 (dt3 80 (((5380 + (4 * p1)) + 1)).toNat)) 87 2 ((u2 dt3 87 1 (dt3 80 (((5380 + (4 * p1)) + 1)).toNat)) 80 (((5380 + (4 * p1)) + 2)).toNat)) 87 5 ((u2 (u2 dt3 87 1 (dt3 80 (((5380 + (4 * p1)) + 1)).toNat)) 87 2 ((u2 dt3 87 1 (dt3 80 (((5380 + (4 * p1)) + 1)).toNat)) 80 (((5380 + (4 * p1)) + 2)).toNat)) 80 (((5380 + (4 * p1)) + 3)).toNat)) 87 3 p3) 93) rfl ⟨by decide, by decide⟩) ?_
  refine go_toq PM205 (k := 3) (pc' := 69) (L' := [some (.inr (.inr (some 79))), some (.inl p1), some (.inl p2), some (.inl p3)]) (st' := [.inl 1, .inr (.inr (some 93)), .inl (dt3 93 0), .inl 4, .inr (.inr (some 87))]) (w' := (SH, (u2 (u2 (u2 (u2 dt3 87 1 (dt3 80 (((5380 + (4 * p1)) + 1)).toNat)) 87 2 ((u2 dt3 87 1 (dt3 80 (((5380 + (4 * p1)) + 1)).toNat)) 80 (((5380 + (4 * p1)) + 2)).toNat)) 87 5 ((u2 (u2 dt3 87 1 (dt3 80 (((5380 + (4 * p1)) + 1)).toNat)) 87 2 ((u2 dt3 87 1 (dt3 80 (((5380 + (4 * p1)) + 1)).toNat)) 80 (((5380 + (4 * p1)) + 2)).toNat)) 80 (((5380 + (4 * p1)) + 3)).toNat)) 87 3 p3))) rfl ?_
  have r19 : (-2147483648) ≤ dt3 93 1 ∧ dt3 93 1 ≤ 2147483647 := InvC_get hI4 93 1 rfl rfl
  refine go_smpq PM205 (L' := [some (.inr (.inr (some 79))), some (.inl p1), some (.inl p2), some (.inl p3)]) (st' := [.inl (dt3 93 1), .inl (dt3 93 0), .inl 4, .inr (.inr (some 87))]) (w' := (SH, (u2 (u2 (u2 (u2 dt3 87 1 (dt3 80 (((5380 + (4 * p1)) + 1)).toNat)) 87 2 ((u2 dt3 87 1 (dt3 80 (((5380 + (4 * p1)) + 1)).toNat)) 80 (((5380 + (4 * p1)) + 2)).toNat)) 87 5 ((u2 (u2 dt3 87 1 (dt3 80 (((5380 + (4 * p1)) + 1)).toNat)) 87 2 ((u2 dt3 87 1 (dt3 80 (((5380 + (4 * p1)) + 1)).toNat)) 80 (((5380 + (4 * p1)) + 2)).toNat)) 80 (((5380 + (4 * p1)) + 3)).toNat)) 87 3 p3))) rfl rfl (s_iald (n := 3) (f := (u2 (u2 (u2 (u2 dt3 87 1 (dt3 80 (((5380 + (4 * p1)) + 1)).toNat)) 87 2 ((u2 dt3 87 1 (dt3 80 (((5380 + (4 * p1)) + 1)).toNat)) 80 (((5380 + (4 * p1)) + 2)).toNat)) 87 5 ((u2 (u2 dt3 87 1 (dt3 80 (((5380 + (4 * p1)) + 1)).toNat)) 87 2 ((u2 dt3 87 1 (dt3 80 (((5380 + (4 * p1)) + 1)).toNat)) 80 (((5380 + (4 * p1)) + 2)).toNat)) 80 (((5380 + (4 * p1)) + 3)).toNat)) 87 3 p3) 93) rfl ⟨by decide, by decide⟩) ?_
  refine go_toq PM205 (k := 4) (pc' := 76) (L' := [some (.inr (.inr (some 79))), some (.inl p1), some (.inl p2), some (.inl p3)]) (st' := [.inl 2, .inr (.inr (some 93)), .inl ((dt3 93 0) + (dt3 93 1)), .inl 4, .inr (.inr (some 87))]) (w' := (SH, (u2 (u2 (u2 (u2 dt3 87 1 (dt3 80 (((5380 + (4 * p1)) + 1)).toNat)) 87 2 ((u2 dt3 87 1 (dt3 80 (((5380 + (4 * p1)) + 1)).toNat)) 80 (((5380 + (4 * p1)) + 2)).toNat)) 87 5 ((u2 (u2 dt3 87 1 (dt3 80 (((5380 + (4 * p1)) + 1)).toNat)) 87 2 ((u2 dt3 87 1 (dt3 80 (((5380 + (4 * p1)) + 1)).toNat)) 80 (((5380 + (4 * p1)) + 2)).toNat)) 80 (((5380 + (4 * p1)) + 3)).toNat)) 87 3 p3))) rfl ?_
  have r20 : (-2147483648) ≤ dt3 93 2 ∧ dt3 93 2 ≤ 2147483647 := InvC_get hI4 93 2 rfl rfl
  refine go_smpq PM205 (L' := [some (.inr (.inr (some 79))), some (.inl p1), some (.inl p2), some (.inl p3)]) (st' := [.inl (dt3 93 2), .inl ((dt3 93 0) + (dt3 93 1)), .inl 4, .inr (.inr (some 87))]) (w' := (SH, (u2 (u2 (u2 (u2 dt3 87 1 (dt3 80 (((5380 + (4 * p1)) + 1)).toNat)) 87 2 ((u2 dt3 87 1 (dt3 80 (((5380 + (4 * p1)) + 1)).toNat)) 80 (((5380 + (4 * p1)) + 2)).toNat)) 87 5 ((u2 (u2 dt3 87 1 (dt3 80 (((5380 + (4 * p1)) + 1)).toNat)) 87 2 ((u2 dt3 87 1 (dt3 80 (((5380 + (4 * p1)) + 1)).toNat)) 80 (((5380 + (4 * p1)) + 2)).toNat)) 80 (((5380 + (4 * p1)) + 3)).toNat)) 87 3 p3))) rfl rfl (s_iald (n := 3) (f := (u2 (u2 (u2 (u2 dt3 87 1 (dt3 80 (((5380 + (4 * p1)) + 1)).toNat)) 87 2 ((u2 dt3 87 1 (dt3 80 (((5380 + (4 * p1)) + 1)).toNat)) 80 (((5380 + (4 * p1)) + 2)).toNat)) 87 5 ((u2 (u2 dt3 87 1 (dt3 80 (((5380 + (4 * p1)) + 1)).toNat)) 87 2 ((u2 dt3 87 1 (dt3 80 (((5380 + (4 * p1)) + 1)).toNat)) 80 (((5380 + (4 * p1)) + 2)).toNat)) 80 (((5380 + (4 * p1)) + 3)).toNat)) 87 3 p3) 93) rfl ⟨by decide, by decide⟩) ?_
  refine go_toq PM205 (k := 1) (pc' := 78) (L' := [some (.inr (.inr (some 79))), some (.inl p1), some (.inl p2), some (.inl p3)]) (st' := [.inl (((dt3 93 0) + (dt3 93 1)) + (dt3 93 2)), .inl 4, .inr (.inr (some 87))]) (w' := (SH, (u2 (u2 (u2 (u2 dt3 87 1 (dt3 80 (((5380 + (4 * p1)) + 1)).toNat)) 87 2 ((u2 dt3 87 1 (dt3 80 (((5380 + (4 * p1)) + 1)).toNat)) 80 (((5380 + (4 * p1)) + 2)).toNat)) 87 5 ((u2 (u2 dt3 87 1 (dt3 80 (((5380 + (4 * p1)) + 1)).toNat)) 87 2 ((u2 dt3 87 1 (dt3 80 (((5380 + (4 * p1)) + 1)).toNat)) 80 (((5380 + (4 * p1)) + 2)).toNat)) 80 (((5380 + (4 * p1)) + 3)).toNat)) 87 3 p3))) rfl ?_
  have r21 := wr_RR (((dt3 93 0) + (dt3 93 1)) + (dt3 93 2))
  have hI22 : InvC (u2 (u2 (u2 (u2 (u2 dt3 87 1 (dt3 80 (((5380 + (4 * p1)) + 1)).toNat)) 87 2 ((u2 dt3 87 1 (dt3 80 (((5380 + (4 * p1)) + 1)).toNat)) 80 (((5380 + (4 * p1)) + 2)).toNat)) 87 5 ((u2 (u2 dt3 87 1 (dt3 80 (((5380 + (4 * p1)) + 1)).toNat)) 87 2 ((u2 dt3 87 1 (dt3 80 (((5380 + (4 * p1)) + 1)).toNat)) 80 (((5380 + (4 * p1)) + 2)).toNat)) 80 (((5380 + (4 * p1)) + 3)).toNat)) 87 3 p3) 87 4 (wr (((dt3 93 0) + (dt3 93 1)) + (dt3 93 2)))) := InvC_u2 hI16 (lo := -2147483648) (hi := 2147483647) rfl rfl rfl (by omega) (by omega)
  have hF23 : Fr [87, 88, 89, 90, 91, 92, 93, 94, 95, 96, 97, 98, 99, 100] dt (u2 (u2 (u2 (u2 (u2 dt3 87 1 (dt3 80 (((5380 + (4 * p1)) + 1)).toNat)) 87 2 ((u2 dt3 87 1 (dt3 80 (((5380 + (4 * p1)) + 1)).toNat)) 80 (((5380 + (4 * p1)) + 2)).toNat)) 87 5 ((u2 (u2 dt3 87 1 (dt3 80 (((5380 + (4 * p1)) + 1)).toNat)) 87 2 ((u2 dt3 87 1 (dt3 80 (((5380 + (4 * p1)) + 1)).toNat)) 80 (((5380 + (4 * p1)) + 2)).toNat)) 80 (((5380 + (4 * p1)) + 3)).toNat)) 87 3 p3) 87 4 (wr (((dt3 93 0) + (dt3 93 1)) + (dt3 93 2)))) := Fr_u2 hF17 (by decide)
  refine go_smpq PM205 (L' := [some (.inr (.inr (some 79))), some (.inl p1), some (.inl p2), some (.inl p3)]) (st' := []) (w' := (SH, (u2 (u2 (u2 (u2 (u2 dt3 87 1 (dt3 80 (((5380 + (4 * p1)) + 1)).toNat)) 87 2 ((u2 dt3 87 1 (dt3 80 (((5380 + (4 * p1)) + 1)).toNat)) 80 (((5380 + (4 * p1)) + 2)).toNat)) 87 5 ((u2 (u2 dt3 87 1 (dt3 80 (((5380 + (4 * p1)) + 1)).toNat)) 87 2 ((u2 dt3 87 1 (dt3 80 (((5380 + (4 * p1)) + 1)).toNat)) 80 (((5380 + (4 * p1)) + 2)).toNat)) 80 (((5380 + (4 * p1)) + 3)).toNat)) 87 3 p3) 87 4 (wr (((dt3 93 0) + (dt3 93 1)) + (dt3 93 2)))))) rfl rfl (s_iastw (n := 7) rfl ⟨by decide, by decide⟩) ?_
  refine go_toq PM205 (k := 6) (pc' := 88) (L' := [some (.inr (.inr (some 79))), some (.inl p1), some (.inl p2), some (.inl p3)]) (st' := [.inl 1, .inl p2, .inr (.inr (some 79)), .inl 6, .inr (.inr (some 87))]) (w' := (SH, (u2 (u2 (u2 (u2 (u2 dt3 87 1 (dt3 80 (((5380 + (4 * p1)) + 1)).toNat)) 87 2 ((u2 dt3 87 1 (dt3 80 (((5380 + (4 * p1)) + 1)).toNat)) 80 (((5380 + (4 * p1)) + 2)).toNat)) 87 5 ((u2 (u2 dt3 87 1 (dt3 80 (((5380 + (4 * p1)) + 1)).toNat)) 87 2 ((u2 dt3 87 1 (dt3 80 (((5380 + (4 * p1)) + 1)).toNat)) 80 (((5380 + (4 * p1)) + 2)).toNat)) 80 (((5380 + (4 * p1)) + 3)).toNat)) 87 3 p3) 87 4 (wr (((dt3 93 0) + (dt3 93 1)) + (dt3 93 2)))))) rfl ?_
  refine go_callq PM205 PM191 (Q' := _) rfl rfl rfl rfl (sp_X6_asked_1 L xs sio (d + 4) (u2 (u2 (u2 (u2 (u2 dt3 87 1 (dt3 80 (((5380 + (4 * p1)) + 1)).toNat)) 87 2 ((u2 dt3 87 1 (dt3 80 (((5380 + (4 * p1)) + 1)).toNat)) 80 (((5380 + (4 * p1)) + 2)).toNat)) 87 5 ((u2 (u2 dt3 87 1 (dt3 80 (((5380 + (4 * p1)) + 1)).toNat)) 87 2 ((u2 dt3 87 1 (dt3 80 (((5380 + (4 * p1)) + 1)).toNat)) 80 (((5380 + (4 * p1)) + 2)).toNat)) 80 (((5380 + (4 * p1)) + 3)).toNat)) 87 3 p3) 87 4 (wr (((dt3 93 0) + (dt3 93 1)) + (dt3 93 2)))) hI22 (MW_fr hM hF23 (by decide))  p2 (by first | exact h_p2 | exact bnd h_p2 (by decide) (by decide) | exact ⟨by fail, by fail⟩) ) ?_
  rintro _ _ ⟨rfl, h24⟩
  refine ⟨rfl, ?_⟩
  rcases h24 with ⟨rfl, h24⟩
  have hI25 : InvC (u2 (u2 (u2 (u2 (u2 (u2 dt3 87 1 (dt3 80 (((5380 + (4 * p1)) + 1)).toNat)) 87 2 ((u2 dt3 87 1 (dt3 80 (((5380 + (4 * p1)) + 1)).toNat)) 80 (((5380 + (4 * p1)) + 2)).toNat)) 87 5 ((u2 (u2 dt3 87 1 (dt3 80 (((5380 + (4 * p1)) + 1)).toNat)) 87 2 ((u2 dt3 87 1 (dt3 80 (((5380 + (4 * p1)) + 1)).toNat)) 80 (((5380 + (4 * p1)) + 2)).toNat)) 80 (((5380 + (4 * p1)) + 3)).toNat)) 87 3 p3) 87 4 (wr (((dt3 93 0) + (dt3 93 1)) + (dt3 93 2)))) 87 6 ((u2 (u2 (u2 (u2 (u2 dt3 87 1 (dt3 80 (((5380 + (4 * p1)) + 1)).toNat)) 87 2 ((u2 dt3 87 1 (dt3 80 (((5380 + (4 * p1)) + 1)).toNat)) 80 (((5380 + (4 * p1)) + 2)).toNat)) 87 5 ((u2 (u2 dt3 87 1 (dt3 80 (((5380 + (4 * p1)) + 1)).toNat)) 87 2 ((u2 dt3 87 1 (dt3 80 (((5380 + (4 * p1)) + 1)).toNat)) 80 (((5380 + (4 * p1)) + 2)).toNat)) 80 (((5380 + (4 * p1)) + 3)).toNat)) 87 3 p3) 87 4 (wr (((dt3 93 0) + (dt3 93 1)) + (dt3 93 2)))) 80 (((5320 + (5 * p2)) + 1)).toNat)) := InvC_u2 hI22 (lo := -2147483648) (hi := 2147483647) rfl rfl rfl (by omega) (by omega)
  have hF26 : Fr [87, 88, 89, 90, 91, 92, 93, 94, 95, 96, 97, 98, 99, 100] dt (u2 (u2 (u2 (u2 (u2 (u2 dt3 87 1 (dt3 80 (((5380 + (4 * p1)) + 1)).toNat)) 87 2 ((u2 dt3 87 1 (dt3 80 (((5380 + (4 * p1)) + 1)).toNat)) 80 (((5380 + (4 * p1)) + 2)).toNat)) 87 5 ((u2 (u2 dt3 87 1 (dt3 80 (((5380 + (4 * p1)) + 1)).toNat)) 87 2 ((u2 dt3 87 1 (dt3 80 (((5380 + (4 * p1)) + 1)).toNat)) 80 (((5380 + (4 * p1)) + 2)).toNat)) 80 (((5380 + (4 * p1)) + 3)).toNat)) 87 3 p3) 87 4 (wr (((dt3 93 0) + (dt3 93 1)) + (dt3 93 2)))) 87 6 ((u2 (u2 (u2 (u2 (u2 dt3 87 1 (dt3 80 (((5380 + (4 * p1)) + 1)).toNat)) 87 2 ((u2 dt3 87 1 (dt3 80 (((5380 + (4 * p1)) + 1)).toNat)) 80 (((5380 + (4 * p1)) + 2)).toNat)) 87 5 ((u2 (u2 dt3 87 1 (dt3 80 (((5380 + (4 * p1)) + 1)).toNat)) 87 2 ((u2 dt3 87 1 (dt3 80 (((5380 + (4 * p1)) + 1)).toNat)) 80 (((5380 + (4 * p1)) + 2)).toNat)) 80 (((5380 + (4 * p1)) + 3)).toNat)) 87 3 p3) 87 4 (wr (((dt3 93 0) + (dt3 93 1)) + (dt3 93 2)))) 80 (((5320 + (5 * p2)) + 1)).toNat)) := Fr_u2 hF23 (by decide)
  refine go_smpq PM205 (L' := [some (.inr (.inr (some 79))), some (.inl p1), some (.inl p2), some (.inl p3)]) (st' := []) (w' := (SH, (u2 (u2 (u2 (u2 (u2 (u2 dt3 87 1 (dt3 80 (((5380 + (4 * p1)) + 1)).toNat)) 87 2 ((u2 dt3 87 1 (dt3 80 (((5380 + (4 * p1)) + 1)).toNat)) 80 (((5380 + (4 * p1)) + 2)).toNat)) 87 5 ((u2 (u2 dt3 87 1 (dt3 80 (((5380 + (4 * p1)) + 1)).toNat)) 87 2 ((u2 dt3 87 1 (dt3 80 (((5380 + (4 * p1)) + 1)).toNat)) 80 (((5380 + (4 * p1)) + 2)).toNat)) 80 (((5380 + (4 * p1)) + 3)).toNat)) 87 3 p3) 87 4 (wr (((dt3 93 0) + (dt3 93 1)) + (dt3 93 2)))) 87 6 ((u2 (u2 (u2 (u2 (u2 dt3 87 1 (dt3 80 (((5380 + (4 * p1)) + 1)).toNat)) 87 2 ((u2 dt3 87 1 (dt3 80 (((5380 + (4 * p1)) + 1)).toNat)) 80 (((5380 + (4 * p1)) + 2)).toNat)) 87 5 ((u2 (u2 dt3 87 1 (dt3 80 (((5380 + (4 * p1)) + 1)).toNat)) 87 2 ((u2 dt3 87 1 (dt3 80 (((5380 + (4 * p1)) + 1)).toNat)) 80 (((5380 + (4 * p1)) + 2)).toNat)) 80 (((5380 + (4 * p1)) + 3)).toNat)) 87 3 p3) 87 4 (wr (((dt3 93 0) + (dt3 93 1)) + (dt3 93 2)))) 80 (((5320 + (5 * p2)) + 1)).toNat)))) rfl rfl (s_iast (n := 7) rfl ⟨by omega, by omega⟩ ⟨by omega, by omega⟩) ?_
  refine go_retq PM205 (k := 0) (r := none) (w1 := (SH, (u2 (u2 (u2 (u2 (u2 (u2 dt3 87 1 (dt3 80 (((5380 + (4 * p1)) + 1)).toNat)) 87 2 ((u2 dt3 87 1 (dt3 80 (((5380 + (4 * p1)) + 1)).toNat)) 80 (((5380 + (4 * p1)) + 2)).toNat)) 87 5 ((u2 (u2 dt3 87 1 (dt3 80 (((5380 + (4 * p1)) + 1)).toNat)) 87 2 ((u2 dt3 87 1 (dt3 80 (((5380 + (4 * p1)) + 1)).toNat)) 80 (((5380 + (4 * p1)) + 2)).toNat)) 80 (((5380 + (4 * p1)) + 3)).toNat)) 87 3 p3) 87 4 (wr (((dt3 93 0) + (dt3 93 1)) + (dt3 93 2)))) 87 6 ((u2 (u2 (u2 (u2 (u2 dt3 87 1 (dt3 80 (((5380 + (4 * p1)) + 1)).toNat)) 87 2 ((u2 dt3 87 1 (dt3 80 (((5380 + (4 * p1)) + 1)).toNat)) 80 (((5380 + (4 * p1)) + 2)).toNat)) 87 5 ((u2 (u2 dt3 87 1 (dt3 80 (((5380 + (4 * p1)) + 1)).toNat)) 87 2 ((u2 dt3 87 1 (dt3 80 (((5380 + (4 * p1)) + 1)).toNat)) 80 (((5380 + (4 * p1)) + 2)).toNat)) 80 (((5380 + (4 * p1)) + 3)).toNat)) 87 3 p3) 87 4 (wr (((dt3 93 0) + (dt3 93 1)) + (dt3 93 2)))) 80 (((5320 + (5 * p2)) + 1)).toNat)))) rfl ?_
  exact ⟨(u2 (u2 (u2 (u2 (u2 (u2 dt3 87 1 (dt3 80 (((5380 + (4 * p1)) + 1)).toNat)) 87 2 ((u2 dt3 87 1 (dt3 80 (((5380 + (4 * p1)) + 1)).toNat)) 80 (((5380 + (4 * p1)) + 2)).toNat)) 87 5 ((u2 (u2 dt3 87 1 (dt3 80 (((5380 + (4 * p1)) + 1)).toNat)) 87 2 ((u2 dt3 87 1 (dt3 80 (((5380 + (4 * p1)) + 1)).toNat)) 80 (((5380 + (4 * p1)) + 2)).toNat)) 80 (((5380 + (4 * p1)) + 3)).toNat)) 87 3 p3) 87 4 (wr (((dt3 93 0) + (dt3 93 1)) + (dt3 93 2)))) 87 6 ((u2 (u2 (u2 (u2 (u2 dt3 87 1 (dt3 80 (((5380 + (4 * p1)) + 1)).toNat)) 87 2 ((u2 dt3 87 1 (dt3 80 (((5380 + (4 * p1)) + 1)).toNat)) 80 (((5380 + (4 * p1)) + 2)).toNat)) 87 5 ((u2 (u2 dt3 87 1 (dt3 80 (((5380 + (4 * p1)) + 1)).toNat)) 87 2 ((u2 dt3 87 1 (dt3 80 (((5380 + (4 * p1)) + 1)).toNat)) 80 (((5380 + (4 * p1)) + 2)).toNat)) 80 (((5380 + (4 * p1)) + 3)).toNat)) 87 3 p3) 87 4 (wr (((dt3 93 0) + (dt3 93 1)) + (dt3 93 2)))) 80 (((5320 + (5 * p2)) + 1)).toNat)), rfl, hI25, hF26, ⟨rfl, trivial⟩⟩
set_option maxRecDepth 20000 in
theorem sp_X6_answer (L : Nat) (xs : Nat → Int32) (sio : Option Nat) (d : Nat) (dt : Nat → Nat → Int) (hI : InvC dt) (hM : MW (dt 80))  (p1 : Int) (h_p1 : (-2147483648) ≤ p1 ∧ p1 ≤ 2147483647) (p2 : Int) (h_p2 : (-2147483648) ≤ p2 ∧ p2 ≤ 2147483647)  : GO (am_XX L xs sio) (d + 1) 214 0 [some (.inr (.inr (some 79))), some (.inl p1), some (.inl p2)] [] (SH, dt) (fun r w2 => w2 = (SH, dt) ∧ ((∃ v : Int, r = some (.inl v) ∧ ((-2147483648) ≤ v ∧ v ≤ 2147483647) ∧ True))) := by
  refine go_toq PM214 (k := 5) (pc' := 7) (L' := [some (.inr (.inr (some 79))), some (.inl p1), some (.inl p2)]) (st' := [.inl 3, .inr (.inr (some 80)), .inl 0, .inl p1]) (w' := (SH, dt)) rfl ?_
  have r1 : (-2147483648) ≤ dt 80 3 ∧ dt 80 3 ≤ 2147483647 := InvC_get hI 80 3 rfl rfl
  have r2 := MW_n hM
  refine go_smpq PM214 (L' := [some (.inr (.inr (some 79))), some (.inl p1), some (.inl p2)]) (st' := [.inl (dt 80 3), .inl 0, .inl p1]) (w' := (SH, dt)) rfl rfl (s_iald (n := 7460) (f := dt 80) rfl ⟨by decide, by decide⟩) ?_
  refine go_toq PM214 (k := 2) (pc' := 10) (L' := [some (.inr (.inr (some 79))), some (.inl p1), some (.inl p2)]) (st' := [.inl ((dt 80 3) - 1), .inl 0, .inl p1]) (w' := (SH, dt)) rfl ?_
  refine go_callq PM214 PM146 (Q' := _) rfl rfl rfl rfl (sp_X6_isIn L xs sio (d + 0) dt hI  p1 (by first | exact h_p1 | exact bnd h_p1 (by decide) (by decide) | exact ⟨by fail, by fail⟩) 0 ⟨by decide, by decide⟩ ((dt 80 3) - 1) ⟨by omega, by omega⟩ ) ?_
  rintro _ _ ⟨rfl, h3⟩
  refine ⟨rfl, ?_⟩
  rcases h3 with ⟨rfl, h3⟩ | ⟨rfl, h3⟩
  · skip
    refine go_toq PM214 (k := 4) (pc' := 19) (L' := [some (.inr (.inr (some 79))), some (.inl p1), some (.inl p2)]) (st' := [.inl 5, .inl 0, .inl p2]) (w' := (SH, dt)) rfl ?_
    refine go_callq PM214 PM146 (Q' := _) rfl rfl rfl rfl (sp_X6_isIn L xs sio (d + 0) dt hI  p2 (by first | exact h_p2 | exact bnd h_p2 (by decide) (by decide) | exact ⟨by fail, by fail⟩) 0 ⟨by decide, by decide⟩ 5 ⟨by decide, by decide⟩ ) ?_
    rintro _ _ ⟨rfl, h6⟩
    refine ⟨rfl, ?_⟩
    rcases h6 with ⟨rfl, h6⟩ | ⟨rfl, h6⟩
    · skip
      refine go_toq PM214 (k := 4) (pc' := 28) (L' := [some (.inr (.inr (some 79))), some (.inl p1), some (.inl p2)]) (st' := [.inl p2, .inl p1, .inr (.inr (some 79))]) (w' := (SH, dt)) rfl ?_
      refine go_callq PM214 PM209 (Q' := _) rfl rfl rfl rfl (sp_X6_ofAnswer_x L xs sio (d + 0) dt hI  p1 (by first | exact h_p1 | exact bnd h_p1 (by decide) (by decide) | exact ⟨by omega, by omega⟩) p2 (by first | exact h_p2 | exact bnd h_p2 (by decide) (by decide) | exact ⟨by omega, by omega⟩) ) ?_
      rintro _ _ ⟨rfl, h8⟩
      refine ⟨rfl, ?_⟩
      rcases h8 with ⟨v_h8, rfl, h8r, h8⟩
      refine go_retq PM214 (k := 1) (r := some (.inl v_h8)) (w1 := (SH, dt)) rfl ?_
      exact ⟨rfl, ⟨_, rfl, (by first | exact bnd h8r (by decide) (by decide) | exact ⟨by fail, by fail⟩), trivial⟩⟩
    · skip
      refine go_retq PM214 (k := 2) (r := some (.inl (-2))) (w1 := (SH, dt)) rfl ?_
      exact ⟨rfl, ⟨_, rfl, ⟨by decide, by decide⟩, trivial⟩⟩
  · skip
    refine go_retq PM214 (k := 2) (r := some (.inl (-2))) (w1 := (SH, dt)) rfl ?_
    exact ⟨rfl, ⟨_, rfl, ⟨by decide, by decide⟩, trivial⟩⟩
set_option maxRecDepth 20000 in
theorem sp_X6_partedBy (L : Nat) (xs : Nat → Int32) (sio : Option Nat) (d : Nat) (dt : Nat → Nat → Int) (hI : InvC dt) (hM : MW (dt 80))  (p1 : Int) (h_p1 : 0 ≤ p1 ∧ p1 ≤ 7) (p2 : Int) (h_p2 : 0 ≤ p2 ∧ p2 ≤ 7)  : GO (am_XX L xs sio) (d + 5) 218 0 [some (.inr (.inr (some 79))), some (.inl p1), some (.inl p2), none, none] [] (SH, dt) (fun r w2 => ∃ dt2 : Nat → Nat → Int, w2 = (SH, dt2) ∧ InvC dt2 ∧ Fr [88, 89, 90, 91, 92, 93, 94, 95, 96, 97, 98, 99, 100] dt dt2 ∧ ((∃ v : Int, r = some (.inl v) ∧ (0 ≤ v ∧ v ≤ 2147483647) ∧ True))) := by
  have hF : Fr [88, 89, 90, 91, 92, 93, 94, 95, 96, 97, 98, 99, 100] dt dt := Fr_refl
  refine go_toq PM218 (k := 4) (pc' := 5) (L' := [some (.inr (.inr (some 79))), some (.inl p1), some (.inl p2), some (.inl 0), some (.inl 0)]) (st' := []) (w' := (SH, dt)) rfl ?_
  have loop550 : ∀ (k_ : Nat) (l5_3 : Int) (l5_4 : Int) (dt545 : Nat → Nat → Int) (hI546 : InvC dt545) (hF547 : Fr [88, 89, 90, 91, 92, 93, 94, 95, 96, 97, 98, 99, 100] dt dt545) (i548 : 0 ≤ l5_3 ∧ l5_3 ≤ 2147483647) (i549 : 0 ≤ l5_4 ∧ l5_4 ≤ 12), (13 - l5_4).toNat < k_ → GO (am_XX L xs sio) (d + 5) 218 5 [some (.inr (.inr (some 79))), some (.inl p1), some (.inl p2), some (.inl l5_3), some (.inl l5_4)] [] (SH, dt545) (fun r w2 => ∃ dt2 : Nat → Nat → Int, w2 = (SH, dt2) ∧ InvC dt2 ∧ Fr [88, 89, 90, 91, 92, 93, 94, 95, 96, 97, 98, 99, 100] dt dt2 ∧ ((∃ v : Int, r = some (.inl v) ∧ (0 ≤ v ∧ v ≤ 2147483647) ∧ True))) := by
    intro k_
    induction k_ with
    | zero => intro l5_3 l5_4 dt545 hI546 hF547 i548 i549 hm; exact absurd hm (Nat.not_lt_zero _)
    | succ k_ ih_loop550 =>
      intro l5_3 l5_4 dt545 hI546 hF547 i548 i549 hm
      refine go_toq PM218 (k := 4) (pc' := 12) (L' := [some (.inr (.inr (some 79))), some (.inl p1), some (.inl p2), some (.inl l5_3), some (.inl l5_4)]) (st' := [.inl 1, .inr (.inr (some 80)), .inl l5_4]) (w' := (SH, dt545)) rfl ?_
      have r551 : (-2147483648) ≤ dt 80 1 ∧ dt 80 1 ≤ 2147483647 := InvC_get hI 80 1 rfl rfl
      have r552 := MW_n hM
      refine go_smpq PM218 (L' := [some (.inr (.inr (some 79))), some (.inl p1), some (.inl p2), some (.inl l5_3), some (.inl l5_4)]) (st' := [.inl (dt 80 1), .inl l5_4]) (w' := (SH, dt545)) rfl rfl (s_ev (s_iald (n := 7460) (f := dt545 80) rfl ⟨by decide, by decide⟩) (hF547 80 (by decide) _)) ?_
      refine go_ifq PM218 (k := 0) (p1 := 61) (p2 := 16) (L' := [some (.inr (.inr (some 79))), some (.inl p1), some (.inl p2), some (.inl l5_3), some (.inl l5_4)]) (st' := []) (w' := (SH, dt545)) rfl (c_ge (a := l5_4) (b := dt 80 1) (by first | exact bnd i549 (by decide) (by decide) | exact ⟨by fail, by fail⟩) (by first | exact bnd r551 (by decide) (by decide) | exact ⟨by fail, by fail⟩)) (fun c566 => ?_) (fun c566 => ?_)
      · skip
        refine go_retq PM218 (k := 1) (r := some (.inl l5_3)) (w1 := (SH, dt545)) rfl ?_
        exact ⟨dt545, rfl, hI546, hF547, ⟨_, rfl, (by first | exact bnd i548 (by decide) (by decide) | exact ⟨by fail, by fail⟩), trivial⟩⟩
      · skip
        refine go_toq PM218 (k := 4) (pc' := 21) (L' := [some (.inr (.inr (some 79))), some (.inl p1), some (.inl p2), some (.inl l5_3), some (.inl l5_4)]) (st' := [.inl 0, .inl l5_4, .inr (.inr (some 79)), .inr (.inr (some 79))]) (w' := (SH, dt545)) rfl ?_
        refine go_callq PM218 PM191 (Q' := _) rfl rfl rfl rfl (sp_X6_asked_0 L xs sio (d + 4) dt545 hI546 (MW_fr hM hF547 (by decide))  l5_4 (by first | exact bnd i549 (by decide) (by decide) | exact bndd i549 c566 (by decide) (by decide) | exact ⟨by omega, by omega⟩) ) ?_
        rintro _ _ ⟨rfl, h567⟩
        refine ⟨rfl, ?_⟩
        rcases h567 with ⟨rfl, h567⟩
        refine go_callq PM218 PM184 (Q' := _) rfl rfl rfl rfl (sp_X6_goes L xs sio (d + 0) dt545 hI546 (MW_fr hM hF547 (by decide))  (dt545 80 (((5320 + (5 * l5_4)) + 0)).toNat) ⟨by omega, by omega⟩ ) ?_
        rintro _ _ ⟨dt569, rfl, hI570, hF571, h568⟩
        refine ⟨rfl, ?_⟩
        have hF572 : Fr [88, 89, 90, 91, 92, 93, 94, 95, 96, 97, 98, 99, 100] dt dt569 := Fr_tr hF547 hF571 (by decide)
        rcases h568 with ⟨rfl, h568⟩
        refine go_toq PM218 (k := 4) (pc' := 32) (L' := [some (.inr (.inr (some 79))), some (.inl p1), some (.inl p2), some (.inl l5_3), some (.inl l5_4)]) (st' := [.inl p1, .inl l5_4, .inr (.inr (some 79)), .inl l5_3]) (w' := (SH, dt569)) rfl ?_
        refine go_callq PM218 PM194 (Q' := _) rfl rfl rfl rfl (sp_X6_saysNow L xs sio (d + 3) dt569 hI570 (MW_fr hM hF572 (by decide))  l5_4 (by first | exact bnd i549 (by decide) (by decide) | exact bndd i549 c566 (by decide) (by decide) | exact ⟨by omega, by omega⟩) p1 (by first | exact h_p1 | exact bnd h_p1 (by decide) (by decide) | exact ⟨by fail, by fail⟩) ) ?_
        rintro _ _ ⟨rfl, h573⟩
        refine ⟨rfl, ?_⟩
        rcases h573 with ⟨v_h573, rfl, h573r, h573⟩
        refine go_toq PM218 (k := 3) (pc' := 39) (L' := [some (.inr (.inr (some 79))), some (.inl p1), some (.inl p2), some (.inl l5_3), some (.inl l5_4)]) (st' := [.inl p2, .inl l5_4, .inr (.inr (some 79)), .inl v_h573, .inl l5_3]) (w' := (SH, dt569)) rfl ?_
        refine go_callq PM218 PM194 (Q' := _) rfl rfl rfl rfl (sp_X6_saysNow L xs sio (d + 3) dt569 hI570 (MW_fr hM hF572 (by decide))  l5_4 (by first | exact bnd i549 (by decide) (by decide) | exact bndd i549 c566 (by decide) (by decide) | exact ⟨by omega, by omega⟩) p2 (by first | exact h_p2 | exact bnd h_p2 (by decide) (by decide) | exact ⟨by fail, by fail⟩) ) ?_
        rintro _ _ ⟨rfl, h574⟩
        refine ⟨rfl, ?_⟩
        rcases h574 with ⟨v_h574, rfl, h574r, h574⟩
        refine go_ifq PM218 (k := 0) (p1 := 52) (p2 := 45) (L' := [some (.inr (.inr (some 79))), some (.inl p1), some (.inl p2), some (.inl l5_3), some (.inl l5_4)]) (st' := [.inl l5_3]) (w' := (SH, dt569)) rfl (c_eq (a := v_h573) (b := v_h574) (by first | exact bnd h573r (by decide) (by decide) | exact ⟨by fail, by fail⟩) (by first | exact bnd h574r (by decide) (by decide) | exact ⟨by fail, by fail⟩)) (fun c577 => ?_) (fun c577 => ?_)
        · skip
          have r578 : 0 ≤ am_or l5_3 0 ∧ am_or l5_3 0 ≤ 2147483647 := am_or_N (n := 31) ⟨by omega, by omega⟩ ⟨by omega, by omega⟩ (by decide) (by decide)
          refine go_toq PM218 (k := 5) (pc' := 5) (L' := [some (.inr (.inr (some 79))), some (.inl p1), some (.inl p2), some (.inl (am_or l5_3 0)), some (.inl (l5_4 + 1))]) (st' := []) (w' := (SH, dt569)) rfl ?_
          exact GO.le (ih_loop550 (am_or l5_3 0) (l5_4 + 1) dt569 hI570 hF572 (by first | exact bnd r578 (by decide) (by decide) | fail) (by first | exact bndp i549 (by decide) (by decide) | exact bnde i549 c566 (by decide) (by decide) | omega) (by omega)) ⟨.inl rfl, .inl rfl, .inl rfl, .inl rfl, .inl rfl, trivial⟩
        · skip
          replace c577 := hid c577
          have r579 : 1 ≤ am_shl 1 l5_4 ∧ am_shl 1 l5_4 ≤ 1073741824 := shl1_R ⟨by omega, by omega⟩
          have r580 : 0 ≤ am_or l5_3 (am_shl 1 l5_4) ∧ am_or l5_3 (am_shl 1 l5_4) ≤ 2147483647 := am_or_N (n := 31) ⟨by omega, by omega⟩ ⟨by omega, by omega⟩ (by decide) (by decide)
          refine go_toq PM218 (k := 8) (pc' := 5) (L' := [some (.inr (.inr (some 79))), some (.inl p1), some (.inl p2), some (.inl (am_or l5_3 (am_shl 1 l5_4))), some (.inl (l5_4 + 1))]) (st' := []) (w' := (SH, dt569)) rfl ?_
          exact GO.le (ih_loop550 (am_or l5_3 (am_shl 1 l5_4)) (l5_4 + 1) dt569 hI570 hF572 (by first | exact bnd r580 (by decide) (by decide) | fail) (by first | exact bndp i549 (by decide) (by decide) | exact bnde i549 c566 (by decide) (by decide) | omega) (by omega)) ⟨.inl rfl, .inl rfl, .inl rfl, .inl rfl, .inl rfl, trivial⟩
  exact GO.le (loop550 _ 0 0 dt hI hF ⟨by decide, by decide⟩ ⟨by decide, by decide⟩ (Nat.lt_succ_self _)) ⟨.inl rfl, .inl rfl, .inl rfl, .inl rfl, .inl rfl, trivial⟩
set_option maxRecDepth 20000 in
theorem sp_X6_count (L : Nat) (xs : Nat → Int32) (sio : Option Nat) (d : Nat) (dt : Nat → Nat → Int) (hI : InvC dt)  (p1 : Int) (h_p1 : (-2147483648) ≤ p1 ∧ p1 ≤ 2147483647)  : GO (am_XX L xs sio) (d) 220 0 [some (.inl p1), none, none] [] (SH, dt) (fun r w2 => w2 = (SH, dt) ∧ ((∃ v : Int, r = some (.inl v) ∧ True ∧ True))) := by
  refine go_toq PM220 (k := 4) (pc' := 4) (L' := [some (.inl p1), some (.inl 0), some (.inl 0)]) (st' := []) (w' := (SH, dt)) rfl ?_
  have loop46 : ∀ (k_ : Nat) (l4_1 : Int) (l4_2 : Int) (i45 : 0 ≤ l4_2 ∧ l4_2 ≤ 24), (25 - l4_2).toNat < k_ → GO (am_XX L xs sio) (d) 220 4 [some (.inl p1), some (.inl l4_1), some (.inl l4_2)] [] (SH, dt) (fun r w2 => w2 = (SH, dt) ∧ ((∃ v : Int, r = some (.inl v) ∧ True ∧ True))) := by
    intro k_
    induction k_ with
    | zero => intro l4_1 l4_2 i45 hm; exact absurd hm (Nat.not_lt_zero _)
    | succ k_ ih_loop46 =>
      intro l4_1 l4_2 i45 hm
      refine go_ifq PM220 (k := 2) (p1 := 24) (p2 := 10) (L' := [some (.inl p1), some (.inl l4_1), some (.inl l4_2)]) (st' := []) (w' := (SH, dt)) rfl (c_ge (a := l4_2) (b := 24) (by first | exact bnd i45 (by decide) (by decide) | exact ⟨by fail, by fail⟩) ⟨by decide, by decide⟩) (fun c50 => ?_) (fun c50 => ?_)
      · skip
        refine go_retq PM220 (k := 1) (r := some (.inl l4_1)) (w1 := (SH, dt)) rfl ?_
        exact ⟨rfl, ⟨_, rfl, trivial, trivial⟩⟩
      · skip
        have r51 : -2147483648 ≤ am_shr p1 l4_2 ∧ am_shr p1 l4_2 ≤ 2147483647 := am_shr_R
        have r52 : 0 ≤ am_and (am_shr p1 l4_2) 1 ∧ am_and (am_shr p1 l4_2) 1 ≤ 1 := and_R1
        refine go_toq PM220 (k := 10) (pc' := 4) (L' := [some (.inl p1), some (.inl (l4_1 + (am_and (am_shr p1 l4_2) 1))), some (.inl (l4_2 + 1))]) (st' := []) (w' := (SH, dt)) rfl ?_
        exact GO.le (ih_loop46 (l4_1 + (am_and (am_shr p1 l4_2) 1)) (l4_2 + 1) (by first | exact bndp i45 (by decide) (by decide) | exact bnde i45 c50 (by decide) (by decide) | fail) (by omega)) ⟨.inl rfl, .inl rfl, .inl rfl, trivial⟩
  exact GO.le (loop46 _ 0 0 ⟨by decide, by decide⟩ (Nat.lt_succ_self _)) ⟨.inl rfl, .inl rfl, .inl rfl, trivial⟩
set_option maxRecDepth 20000 in
theorem sp_X6_fewest (L : Nat) (xs : Nat → Int32) (sio : Option Nat) (d : Nat) (dt : Nat → Nat → Int) (hI : InvC dt) (hM : MW (dt 80))  (p1 : Int) (h_p1 : (-2147483648) ≤ p1 ∧ p1 ≤ 2147483647)  : GO (am_XX L xs sio) (d + 6) 221 0 [some (.inr (.inr (some 79))), some (.inl p1), none, none, none, none, none] [] (SH, dt) (fun r w2 => ∃ dt2 : Nat → Nat → Int, w2 = (SH, dt2) ∧ InvC dt2 ∧ Fr [88, 89, 90, 91, 92, 93, 94, 95, 96, 97, 98, 99, 100, 101] dt dt2 ∧ ((∃ v : Int, r = some (.inl v) ∧ ((-1) ≤ v ∧ v ≤ 2147483647) ∧ True))) := by
  have hF : Fr [88, 89, 90, 91, 92, 93, 94, 95, 96, 97, 98, 99, 100, 101] dt dt := Fr_refl
  refine go_toq PM221 (k := 3) (pc' := 5) (L' := [some (.inr (.inr (some 79))), some (.inl p1), none, none, none, none, none]) (st' := [.inl 255, .inl 1, .inl p1]) (w' := (SH, dt)) rfl ?_
  refine go_callq PM221 PM146 (Q' := _) rfl rfl rfl rfl (sp_X6_isIn L xs sio (d + 5) dt hI  p1 (by first | exact h_p1 | exact bnd h_p1 (by decide) (by decide) | exact ⟨by fail, by fail⟩) 1 ⟨by decide, by decide⟩ 255 ⟨by decide, by decide⟩ ) ?_
  rintro _ _ ⟨rfl, h1⟩
  refine ⟨rfl, ?_⟩
  rcases h1 with ⟨rfl, h1⟩ | ⟨rfl, h1⟩
  · skip
    refine go_toq PM221 (k := 5) (pc' := 17) (L' := [some (.inr (.inr (some 79))), some (.inl p1), some (.inl 0), some (.inl 0), none, none, none]) (st' := []) (w' := (SH, dt)) rfl ?_
    have loop282 : ∀ (k_ : Nat) (l17_2 : Int) (l17_3 : Int) (dt276 : Nat → Nat → Int) (hI277 : InvC dt276) (hF278 : Fr [88, 89, 90, 91, 92, 93, 94, 95, 96, 97, 98, 99, 100, 101] dt dt276) (i279 : 0 ≤ l17_2 ∧ l17_2 ≤ 64) (i280 : 0 ≤ l17_3 ∧ l17_3 ≤ 8) (i281 : l17_2 ≤ 8 * l17_3), (9 - l17_3).toNat < k_ → GO (am_XX L xs sio) (d + 6) 221 17 [some (.inr (.inr (some 79))), some (.inl p1), some (.inl l17_2), some (.inl l17_3), none, none, none] [] (SH, dt276) (fun r w2 => ∃ dt2 : Nat → Nat → Int, w2 = (SH, dt2) ∧ InvC dt2 ∧ Fr [88, 89, 90, 91, 92, 93, 94, 95, 96, 97, 98, 99, 100, 101] dt dt2 ∧ ((∃ v : Int, r = some (.inl v) ∧ ((-1) ≤ v ∧ v ≤ 2147483647) ∧ True))) := by
      intro k_
      induction k_ with
      | zero => intro l17_2 l17_3 dt276 hI277 hF278 i279 i280 i281 hm; exact absurd hm (Nat.not_lt_zero _)
      | succ k_ ih_loop282 =>
        intro l17_2 l17_3 dt276 hI277 hF278 i279 i280 i281 hm
        refine go_ifq PM221 (k := 2) (p1 := 76) (p2 := 23) (L' := [some (.inr (.inr (some 79))), some (.inl p1), some (.inl l17_2), some (.inl l17_3), none, none, none]) (st' := []) (w' := (SH, dt276)) rfl (c_ge (a := l17_3) (b := 8) (by first | exact bnd i280 (by decide) (by decide) | exact ⟨by fail, by fail⟩) ⟨by decide, by decide⟩) (fun c360 => ?_) (fun c360 => ?_)
        · skip
          refine go_toq PM221 (k := 4) (pc' := 81) (L' := [some (.inr (.inr (some 79))), some (.inl p1), some (.inl l17_2), some (.inl (-1)), some (.inl 0), none, none]) (st' := []) (w' := (SH, dt276)) rfl ?_
          have loop6123 : ∀ (k_ : Nat) (l81_3 : Int) (l81_4 : Int) (i6121 : (-1) ≤ l81_3 ∧ l81_3 ≤ 1073741824) (i6122 : 0 ≤ l81_4 ∧ l81_4 ≤ 1073741824), (1073741825 - l81_4).toNat < k_ → GO (am_XX L xs sio) (d + 6) 221 81 [some (.inr (.inr (some 79))), none, some (.inl l17_2), some (.inl l81_3), some (.inl l81_4), none, none] [] (SH, dt276) (fun r w2 => ∃ dt2 : Nat → Nat → Int, w2 = (SH, dt2) ∧ InvC dt2 ∧ Fr [88, 89, 90, 91, 92, 93, 94, 95, 96, 97, 98, 99, 100, 101] dt dt2 ∧ ((∃ v : Int, r = some (.inl v) ∧ ((-1) ≤ v ∧ v ≤ 2147483647) ∧ True))) := by
            intro k_
            induction k_ with
            | zero => intro l81_3 l81_4 i6121 i6122 hm; exact absurd hm (Nat.not_lt_zero _)
            | succ k_ ih_loop6123 =>
              intro l81_3 l81_4 i6121 i6122 hm
              refine go_toq PM221 (k := 5) (pc' := 89) (L' := [some (.inr (.inr (some 79))), none, some (.inl l17_2), some (.inl l81_3), some (.inl l81_4), none, none]) (st' := [.inl 1, .inr (.inr (some 80)), .inl 1, .inl l81_4]) (w' := (SH, dt276)) rfl ?_
              have r6124 : (-2147483648) ≤ dt 80 1 ∧ dt 80 1 ≤ 2147483647 := InvC_get hI 80 1 rfl rfl
              have r6125 := MW_n hM
              refine go_smpq PM221 (L' := [some (.inr (.inr (some 79))), none, some (.inl l17_2), some (.inl l81_3), some (.inl l81_4), none, none]) (st' := [.inl (dt 80 1), .inl 1, .inl l81_4]) (w' := (SH, dt276)) rfl rfl (s_ev (s_iald (n := 7460) (f := dt276 80) rfl ⟨by decide, by decide⟩) (hF278 80 (by decide) _)) ?_
              have r6126 : 1 ≤ am_shl 1 (dt 80 1) ∧ am_shl 1 (dt 80 1) ≤ 1073741824 := shl1_R ⟨by omega, by omega⟩
              refine go_ifq PM221 (k := 1) (p1 := 176) (p2 := 94) (L' := [some (.inr (.inr (some 79))), none, some (.inl l17_2), some (.inl l81_3), some (.inl l81_4), none, none]) (st' := []) (w' := (SH, dt276)) rfl (c_ge (a := l81_4) (b := am_shl 1 (dt 80 1)) (by first | exact bnd i6122 (by decide) (by decide) | exact ⟨by fail, by fail⟩) (by first | exact bnd r6126 (by decide) (by decide) | exact ⟨by fail, by fail⟩)) (fun c6251 => ?_) (fun c6251 => ?_)
              · skip
                refine go_retq PM221 (k := 1) (r := some (.inl l81_3)) (w1 := (SH, dt276)) rfl ?_
                exact ⟨dt276, rfl, hI277, hF278, ⟨_, rfl, (by first | exact bnd i6121 (by decide) (by decide) | exact ⟨by fail, by fail⟩), trivial⟩⟩
              · skip
                have j6258 :  GO (am_XX L xs sio) (d + 6) 221 116 [some (.inr (.inr (some 79))), none, some (.inl l17_2), some (.inl l81_3), some (.inl l81_4), none, none] [.inl 1] (SH, dt276) (fun r w2 => ∃ dt2 : Nat → Nat → Int, w2 = (SH, dt2) ∧ InvC dt2 ∧ Fr [88, 89, 90, 91, 92, 93, 94, 95, 96, 97, 98, 99, 100, 101] dt dt2 ∧ ((∃ v : Int, r = some (.inl v) ∧ ((-1) ≤ v ∧ v ≤ 2147483647) ∧ True))) := by
                  skip
                  refine go_toq PM221 (k := 3) (pc' := 121) (L' := [some (.inr (.inr (some 79))), none, some (.inl l17_2), some (.inl l81_3), some (.inl l81_4), some (.inl 1), some (.inl 0)]) (st' := []) (w' := (SH, dt276)) rfl ?_
                  have loop6309 : ∀ (k_ : Nat) (l121_5 : Int) (l121_6 : Int) (i6307 : 0 ≤ l121_5 ∧ l121_5 ≤ 1) (i6308 : 0 ≤ l121_6 ∧ l121_6 ≤ 64), (65 - l121_6).toNat < k_ → GO (am_XX L xs sio) (d + 6) 221 121 [some (.inr (.inr (some 79))), none, some (.inl l17_2), some (.inl l81_3), some (.inl l81_4), some (.inl l121_5), some (.inl l121_6)] [] (SH, dt276) (fun r w2 => ∃ dt2 : Nat → Nat → Int, w2 = (SH, dt2) ∧ InvC dt2 ∧ Fr [88, 89, 90, 91, 92, 93, 94, 95, 96, 97, 98, 99, 100, 101] dt dt2 ∧ ((∃ v : Int, r = some (.inl v) ∧ ((-1) ≤ v ∧ v ≤ 2147483647) ∧ True))) := by
                    intro k_
                    induction k_ with
                    | zero => intro l121_5 l121_6 i6307 i6308 hm; exact absurd hm (Nat.not_lt_zero _)
                    | succ k_ ih_loop6309 =>
                      intro l121_5 l121_6 i6307 i6308 hm
                      have j6315 :  GO (am_XX L xs sio) (d + 6) 221 158 [some (.inr (.inr (some 79))), none, some (.inl l17_2), some (.inl l81_3), some (.inl l81_4), some (.inl l121_5), none] [] (SH, dt276) (fun r w2 => ∃ dt2 : Nat → Nat → Int, w2 = (SH, dt2) ∧ InvC dt2 ∧ Fr [88, 89, 90, 91, 92, 93, 94, 95, 96, 97, 98, 99, 100, 101] dt dt2 ∧ ((∃ v : Int, r = some (.inl v) ∧ ((-1) ≤ v ∧ v ≤ 2147483647) ∧ True))) := by
                        skip
                        have j6317 : ∀ (j6317_s0 : Int) (i6318 : (-1) ≤ j6317_s0 ∧ j6317_s0 ≤ 1073741824), GO (am_XX L xs sio) (d + 6) 221 169 [some (.inr (.inr (some 79))), none, some (.inl l17_2), none, some (.inl l81_4), none, none] [.inl j6317_s0] (SH, dt276) (fun r w2 => ∃ dt2 : Nat → Nat → Int, w2 = (SH, dt2) ∧ InvC dt2 ∧ Fr [88, 89, 90, 91, 92, 93, 94, 95, 96, 97, 98, 99, 100, 101] dt dt2 ∧ ((∃ v : Int, r = some (.inl v) ∧ ((-1) ≤ v ∧ v ≤ 2147483647) ∧ True))) := by
                          intro j6317_s0 i6318
                          refine go_toq PM221 (k := 3) (pc' := 81) (L' := [some (.inr (.inr (some 79))), none, some (.inl l17_2), some (.inl j6317_s0), some (.inl (l81_4 + 1)), none, none]) (st' := []) (w' := (SH, dt276)) rfl ?_
                          exact GO.le (ih_loop6123 j6317_s0 (l81_4 + 1) (by first | exact bnd i6318 (by decide) (by decide) | fail) (by first | exact bndp i6122 (by decide) (by decide) | exact bnde i6122 c6251 (by decide) (by decide) | omega) (by omega)) ⟨.inl rfl, .inl rfl, .inl rfl, .inl rfl, .inl rfl, .inl rfl, .inl rfl, trivial⟩
                        refine go_ifq PM221 (k := 1) (p1 := 168) (p2 := 163) (L' := [some (.inr (.inr (some 79))), none, some (.inl l17_2), some (.inl l81_3), some (.inl l81_4), some (.inl l121_5), none]) (st' := []) (w' := (SH, dt276)) rfl (z_eq (a := l121_5) (by first | exact bnd i6307 (by decide) (by decide) | exact ⟨by fail, by fail⟩)) (fun c6319 => ?_) (fun c6319 => ?_)
                        · skip
                          refine go_toq PM221 (k := 1) (pc' := 169) (L' := [some (.inr (.inr (some 79))), none, some (.inl l17_2), some (.inl l81_3), some (.inl l81_4), some (.inl l121_5), none]) (st' := [.inl l81_3]) (w' := (SH, dt276)) rfl ?_
                          exact GO.le (j6317 l81_3 (by first | exact bnd i6121 (by decide) (by decide) | fail)) ⟨.inl rfl, .inl rfl, .inl rfl, .inr ⟨rfl, trivial⟩, .inl rfl, .inr ⟨rfl, trivial⟩, .inl rfl, trivial⟩
                        · skip
                          replace c6319 := hid c6319
                          refine go_toq PM221 (k := 2) (pc' := 169) (L' := [some (.inr (.inr (some 79))), none, some (.inl l17_2), some (.inl l81_3), some (.inl l81_4), some (.inl l121_5), none]) (st' := [.inl l81_4]) (w' := (SH, dt276)) rfl ?_
                          exact GO.le (j6317 l81_4 (by first | exact bnd i6122 (by decide) (by decide) | fail)) ⟨.inl rfl, .inl rfl, .inl rfl, .inr ⟨rfl, trivial⟩, .inl rfl, .inr ⟨rfl, trivial⟩, .inl rfl, trivial⟩
                      refine go_ifq PM221 (k := 2) (p1 := 158) (p2 := 127) (L' := [some (.inr (.inr (some 79))), none, some (.inl l17_2), some (.inl l81_3), some (.inl l81_4), some (.inl l121_5), some (.inl l121_6)]) (st' := []) (w' := (SH, dt276)) rfl (c_ge (a := l121_6) (b := l17_2) (by first | exact bnd i6308 (by decide) (by decide) | exact ⟨by fail, by fail⟩) (by first | exact bnd i279 (by decide) (by decide) | exact ⟨by fail, by fail⟩)) (fun c6320 => ?_) (fun c6320 => ?_)
                      · skip
                        exact GO.le (j6315 ) ⟨.inl rfl, .inl rfl, .inl rfl, .inl rfl, .inl rfl, .inl rfl, .inr ⟨rfl, trivial⟩, trivial⟩
                      · skip
                        refine go_ifq PM221 (k := 1) (p1 := 158) (p2 := 132) (L' := [some (.inr (.inr (some 79))), none, some (.inl l17_2), some (.inl l81_3), some (.inl l81_4), some (.inl l121_5), some (.inl l121_6)]) (st' := []) (w' := (SH, dt276)) rfl (z_eq (a := l121_5) (by first | exact bnd i6307 (by decide) (by decide) | exact ⟨by fail, by fail⟩)) (fun c6321 => ?_) (fun c6321 => ?_)
                        · skip
                          exact GO.le (j6315 ) ⟨.inl rfl, .inl rfl, .inl rfl, .inl rfl, .inl rfl, .inl rfl, .inr ⟨rfl, trivial⟩, trivial⟩
                        · skip
                          replace c6321 := hid c6321
                          refine go_toq PM221 (k := 3) (pc' := 138) (L' := [some (.inr (.inr (some 79))), none, some (.inl l17_2), some (.inl l81_3), some (.inl l81_4), some (.inl l121_5), some (.inl l121_6)]) (st' := [.inl l121_6, .inr (.inr (some 101))]) (w' := (SH, dt276)) rfl ?_
                          have r6322 : (-2147483648) ≤ dt276 101 (l121_6).toNat ∧ dt276 101 (l121_6).toNat ≤ 2147483647 := InvC_get hI277 101 (l121_6).toNat rfl rfl
                          refine go_smpq PM221 (L' := [some (.inr (.inr (some 79))), none, some (.inl l17_2), some (.inl l81_3), some (.inl l81_4), some (.inl l121_5), some (.inl l121_6)]) (st' := [.inl (dt276 101 (l121_6).toNat)]) (w' := (SH, dt276)) rfl rfl (s_iald (n := 64) (f := dt276 101) rfl (by first | exact bndc i6308 c6320 (by decide) (by decide) | exact bndx i6308 (by decide) (by decide) | exact ⟨by omega, by omega⟩)) ?_
                          have r6323 : -2147483648 ≤ am_and (dt276 101 (l121_6).toNat) l81_4 ∧ am_and (dt276 101 (l121_6).toNat) l81_4 ≤ 2147483647 := am_and_R
                          refine go_ifq PM221 (k := 2) (p1 := 149) (p2 := 145) (L' := [some (.inr (.inr (some 79))), none, some (.inl l17_2), some (.inl l81_3), some (.inl l81_4), some (.inl l121_5), some (.inl l121_6)]) (st' := []) (w' := (SH, dt276)) rfl (z_eq (a := am_and (dt276 101 (l121_6).toNat) l81_4) (by first | exact bnd r6323 (by decide) (by decide) | exact ⟨by fail, by fail⟩)) (fun c6325 => ?_) (fun c6325 => ?_)
                          · skip
                            refine go_toq PM221 (k := 4) (pc' := 121) (L' := [some (.inr (.inr (some 79))), none, some (.inl l17_2), some (.inl l81_3), some (.inl l81_4), some (.inl 0), some (.inl (l121_6 + 1))]) (st' := []) (w' := (SH, dt276)) rfl ?_
                            exact GO.le (ih_loop6309 0 (l121_6 + 1) ⟨by decide, by decide⟩ (by first | exact bndp i6308 (by decide) (by decide) | exact bnde i6308 c6320 (by decide) (by decide) | omega) (by omega)) ⟨.inl rfl, .inl rfl, .inl rfl, .inl rfl, .inl rfl, .inl rfl, .inl rfl, trivial⟩
                          · skip
                            replace c6325 := hid c6325
                            refine go_toq PM221 (k := 5) (pc' := 121) (L' := [some (.inr (.inr (some 79))), none, some (.inl l17_2), some (.inl l81_3), some (.inl l81_4), some (.inl 1), some (.inl (l121_6 + 1))]) (st' := []) (w' := (SH, dt276)) rfl ?_
                            exact GO.le (ih_loop6309 1 (l121_6 + 1) ⟨by decide, by decide⟩ (by first | exact bndp i6308 (by decide) (by decide) | exact bnde i6308 c6320 (by decide) (by decide) | omega) (by omega)) ⟨.inl rfl, .inl rfl, .inl rfl, .inl rfl, .inl rfl, .inl rfl, .inl rfl, trivial⟩
                  exact GO.le (loop6309 _ 1 0 ⟨by decide, by decide⟩ ⟨by decide, by decide⟩ (Nat.lt_succ_self _)) ⟨.inl rfl, .inl rfl, .inl rfl, .inl rfl, .inl rfl, .inl rfl, .inl rfl, trivial⟩
                refine go_ifq PM221 (k := 2) (p1 := 111) (p2 := 99) (L' := [some (.inr (.inr (some 79))), none, some (.inl l17_2), some (.inl l81_3), some (.inl l81_4), none, none]) (st' := []) (w' := (SH, dt276)) rfl (c_eq (a := l81_3) (b := (-1)) (by first | exact bnd i6121 (by decide) (by decide) | exact ⟨by fail, by fail⟩) ⟨by decide, by decide⟩) (fun c6326 => ?_) (fun c6326 => ?_)
                · skip
                  refine go_toq PM221 (k := 2) (pc' := 116) (L' := [some (.inr (.inr (some 79))), none, some (.inl l17_2), some (.inl l81_3), some (.inl l81_4), none, none]) (st' := [.inl 1]) (w' := (SH, dt276)) rfl ?_
                  exact GO.le (j6258 ) ⟨.inl rfl, .inl rfl, .inl rfl, .inl rfl, .inl rfl, .inl rfl, .inl rfl, trivial⟩
                · skip
                  replace c6326 := hid c6326
                  refine go_toq PM221 (k := 1) (pc' := 101) (L' := [some (.inr (.inr (some 79))), none, some (.inl l17_2), some (.inl l81_3), some (.inl l81_4), none, none]) (st' := [.inl l81_4]) (w' := (SH, dt276)) rfl ?_
                  refine go_callq PM221 PM220 (Q' := _) rfl rfl rfl rfl (sp_X6_count L xs sio (d + 5) dt276 hI277  l81_4 (by first | exact bnd i6122 (by decide) (by decide) | exact bndd i6122 c6251 (by decide) (by decide) | exact ⟨by fail, by fail⟩) ) ?_
                  rintro _ _ ⟨rfl, h6327⟩
                  refine ⟨rfl, ?_⟩
                  rcases h6327 with ⟨v_h6327, rfl, h6327r, h6327⟩
                  refine go_toq PM221 (k := 1) (pc' := 105) (L' := [some (.inr (.inr (some 79))), none, some (.inl l17_2), some (.inl l81_3), some (.inl l81_4), none, none]) (st' := [.inl l81_3, .inl v_h6327]) (w' := (SH, dt276)) rfl ?_
                  refine go_callq PM221 PM220 (Q' := _) rfl rfl rfl rfl (sp_X6_count L xs sio (d + 5) dt276 hI277  l81_3 (by first | exact bnd i6121 (by decide) (by decide) | exact ⟨by fail, by fail⟩) ) ?_
                  rintro _ _ ⟨rfl, h6328⟩
                  refine ⟨rfl, ?_⟩
                  rcases h6328 with ⟨v_h6328, rfl, h6328r, h6328⟩
                  have r6330 := wr_RR v_h6327
                  have r6331 := wr_RR v_h6328
                  refine go_ifq PM221 (k := 0) (p1 := 115) (p2 := 111) (L' := [some (.inr (.inr (some 79))), none, some (.inl l17_2), some (.inl l81_3), some (.inl l81_4), none, none]) (st' := []) (w' := (SH, dt276)) rfl (u_ge (a := wr v_h6327) (b := wr v_h6328)) (fun c6329 => ?_) (fun c6329 => ?_)
                  · skip
                    refine go_toq PM221 (k := 4) (pc' := 121) (L' := [some (.inr (.inr (some 79))), none, some (.inl l17_2), some (.inl l81_3), some (.inl l81_4), some (.inl 0), some (.inl 0)]) (st' := []) (w' := (SH, dt276)) rfl ?_
                    have loop6382 : ∀ (k_ : Nat) (l121_5 : Int) (l121_6 : Int) (i6380 : 0 ≤ l121_5 ∧ l121_5 ≤ 1) (i6381 : 0 ≤ l121_6 ∧ l121_6 ≤ 64), (65 - l121_6).toNat < k_ → GO (am_XX L xs sio) (d + 6) 221 121 [some (.inr (.inr (some 79))), none, some (.inl l17_2), some (.inl l81_3), some (.inl l81_4), some (.inl l121_5), some (.inl l121_6)] [] (SH, dt276) (fun r w2 => ∃ dt2 : Nat → Nat → Int, w2 = (SH, dt2) ∧ InvC dt2 ∧ Fr [88, 89, 90, 91, 92, 93, 94, 95, 96, 97, 98, 99, 100, 101] dt dt2 ∧ ((∃ v : Int, r = some (.inl v) ∧ ((-1) ≤ v ∧ v ≤ 2147483647) ∧ True))) := by
                      intro k_
                      induction k_ with
                      | zero => intro l121_5 l121_6 i6380 i6381 hm; exact absurd hm (Nat.not_lt_zero _)
                      | succ k_ ih_loop6382 =>
                        intro l121_5 l121_6 i6380 i6381 hm
                        have j6388 :  GO (am_XX L xs sio) (d + 6) 221 158 [some (.inr (.inr (some 79))), none, some (.inl l17_2), some (.inl l81_3), some (.inl l81_4), some (.inl l121_5), none] [] (SH, dt276) (fun r w2 => ∃ dt2 : Nat → Nat → Int, w2 = (SH, dt2) ∧ InvC dt2 ∧ Fr [88, 89, 90, 91, 92, 93, 94, 95, 96, 97, 98, 99, 100, 101] dt dt2 ∧ ((∃ v : Int, r = some (.inl v) ∧ ((-1) ≤ v ∧ v ≤ 2147483647) ∧ True))) := by
                          skip
                          have j6390 : ∀ (j6390_s0 : Int) (i6391 : 0 ≤ j6390_s0 ∧ j6390_s0 ≤ 1073741824), GO (am_XX L xs sio) (d + 6) 221 169 [some (.inr (.inr (some 79))), none, some (.inl l17_2), none, some (.inl l81_4), none, none] [.inl j6390_s0] (SH, dt276) (fun r w2 => ∃ dt2 : Nat → Nat → Int, w2 = (SH, dt2) ∧ InvC dt2 ∧ Fr [88, 89, 90, 91, 92, 93, 94, 95, 96, 97, 98, 99, 100, 101] dt dt2 ∧ ((∃ v : Int, r = some (.inl v) ∧ ((-1) ≤ v ∧ v ≤ 2147483647) ∧ True))) := by
                            intro j6390_s0 i6391
                            refine go_toq PM221 (k := 3) (pc' := 81) (L' := [some (.inr (.inr (some 79))), none, some (.inl l17_2), some (.inl j6390_s0), some (.inl (l81_4 + 1)), none, none]) (st' := []) (w' := (SH, dt276)) rfl ?_
                            exact GO.le (ih_loop6123 j6390_s0 (l81_4 + 1) (by first | exact bnd i6391 (by decide) (by decide) | fail) (by first | exact bndp i6122 (by decide) (by decide) | exact bnde i6122 c6251 (by decide) (by decide) | omega) (by omega)) ⟨.inl rfl, .inl rfl, .inl rfl, .inl rfl, .inl rfl, .inl rfl, .inl rfl, trivial⟩
                          refine go_ifq PM221 (k := 1) (p1 := 168) (p2 := 163) (L' := [some (.inr (.inr (some 79))), none, some (.inl l17_2), some (.inl l81_3), some (.inl l81_4), some (.inl l121_5), none]) (st' := []) (w' := (SH, dt276)) rfl (z_eq (a := l121_5) (by first | exact bnd i6380 (by decide) (by decide) | exact ⟨by fail, by fail⟩)) (fun c6392 => ?_) (fun c6392 => ?_)
                          · skip
                            refine go_toq PM221 (k := 1) (pc' := 169) (L' := [some (.inr (.inr (some 79))), none, some (.inl l17_2), some (.inl l81_3), some (.inl l81_4), some (.inl l121_5), none]) (st' := [.inl l81_3]) (w' := (SH, dt276)) rfl ?_
                            exact GO.le (j6390 l81_3 (by first | exact bnd i6121 (by decide) (by decide) | (have z_ := unhid c6326; omega))) ⟨.inl rfl, .inl rfl, .inl rfl, .inr ⟨rfl, trivial⟩, .inl rfl, .inr ⟨rfl, trivial⟩, .inl rfl, trivial⟩
                          · skip
                            replace c6392 := hid c6392
                            refine go_toq PM221 (k := 2) (pc' := 169) (L' := [some (.inr (.inr (some 79))), none, some (.inl l17_2), some (.inl l81_3), some (.inl l81_4), some (.inl l121_5), none]) (st' := [.inl l81_4]) (w' := (SH, dt276)) rfl ?_
                            exact GO.le (j6390 l81_4 (by first | exact bnd i6122 (by decide) (by decide) | fail)) ⟨.inl rfl, .inl rfl, .inl rfl, .inr ⟨rfl, trivial⟩, .inl rfl, .inr ⟨rfl, trivial⟩, .inl rfl, trivial⟩
                        refine go_ifq PM221 (k := 2) (p1 := 158) (p2 := 127) (L' := [some (.inr (.inr (some 79))), none, some (.inl l17_2), some (.inl l81_3), some (.inl l81_4), some (.inl l121_5), some (.inl l121_6)]) (st' := []) (w' := (SH, dt276)) rfl (c_ge (a := l121_6) (b := l17_2) (by first | exact bnd i6381 (by decide) (by decide) | exact ⟨by fail, by fail⟩) (by first | exact bnd i279 (by decide) (by decide) | exact ⟨by fail, by fail⟩)) (fun c6393 => ?_) (fun c6393 => ?_)
                        · skip
                          exact GO.le (j6388 ) ⟨.inl rfl, .inl rfl, .inl rfl, .inl rfl, .inl rfl, .inl rfl, .inr ⟨rfl, trivial⟩, trivial⟩
                        · skip
                          refine go_ifq PM221 (k := 1) (p1 := 158) (p2 := 132) (L' := [some (.inr (.inr (some 79))), none, some (.inl l17_2), some (.inl l81_3), some (.inl l81_4), some (.inl l121_5), some (.inl l121_6)]) (st' := []) (w' := (SH, dt276)) rfl (z_eq (a := l121_5) (by first | exact bnd i6380 (by decide) (by decide) | exact ⟨by fail, by fail⟩)) (fun c6394 => ?_) (fun c6394 => ?_)
                          · skip
                            exact GO.le (j6388 ) ⟨.inl rfl, .inl rfl, .inl rfl, .inl rfl, .inl rfl, .inl rfl, .inr ⟨rfl, trivial⟩, trivial⟩
                          · skip
                            replace c6394 := hid c6394
                            refine go_toq PM221 (k := 3) (pc' := 138) (L' := [some (.inr (.inr (some 79))), none, some (.inl l17_2), some (.inl l81_3), some (.inl l81_4), some (.inl l121_5), some (.inl l121_6)]) (st' := [.inl l121_6, .inr (.inr (some 101))]) (w' := (SH, dt276)) rfl ?_
                            have r6395 : (-2147483648) ≤ dt276 101 (l121_6).toNat ∧ dt276 101 (l121_6).toNat ≤ 2147483647 := InvC_get hI277 101 (l121_6).toNat rfl rfl
                            refine go_smpq PM221 (L' := [some (.inr (.inr (some 79))), none, some (.inl l17_2), some (.inl l81_3), some (.inl l81_4), some (.inl l121_5), some (.inl l121_6)]) (st' := [.inl (dt276 101 (l121_6).toNat)]) (w' := (SH, dt276)) rfl rfl (s_iald (n := 64) (f := dt276 101) rfl (by first | exact bndc i6381 c6393 (by decide) (by decide) | exact bndx i6381 (by decide) (by decide) | exact ⟨by omega, by omega⟩)) ?_
                            have r6396 : -2147483648 ≤ am_and (dt276 101 (l121_6).toNat) l81_4 ∧ am_and (dt276 101 (l121_6).toNat) l81_4 ≤ 2147483647 := am_and_R
                            refine go_ifq PM221 (k := 2) (p1 := 149) (p2 := 145) (L' := [some (.inr (.inr (some 79))), none, some (.inl l17_2), some (.inl l81_3), some (.inl l81_4), some (.inl l121_5), some (.inl l121_6)]) (st' := []) (w' := (SH, dt276)) rfl (z_eq (a := am_and (dt276 101 (l121_6).toNat) l81_4) (by first | exact bnd r6396 (by decide) (by decide) | exact ⟨by fail, by fail⟩)) (fun c6398 => ?_) (fun c6398 => ?_)
                            · skip
                              refine go_toq PM221 (k := 4) (pc' := 121) (L' := [some (.inr (.inr (some 79))), none, some (.inl l17_2), some (.inl l81_3), some (.inl l81_4), some (.inl 0), some (.inl (l121_6 + 1))]) (st' := []) (w' := (SH, dt276)) rfl ?_
                              exact GO.le (ih_loop6382 0 (l121_6 + 1) ⟨by decide, by decide⟩ (by first | exact bndp i6381 (by decide) (by decide) | exact bnde i6381 c6393 (by decide) (by decide) | omega) (by omega)) ⟨.inl rfl, .inl rfl, .inl rfl, .inl rfl, .inl rfl, .inl rfl, .inl rfl, trivial⟩
                            · skip
                              replace c6398 := hid c6398
                              refine go_toq PM221 (k := 5) (pc' := 121) (L' := [some (.inr (.inr (some 79))), none, some (.inl l17_2), some (.inl l81_3), some (.inl l81_4), some (.inl 1), some (.inl (l121_6 + 1))]) (st' := []) (w' := (SH, dt276)) rfl ?_
                              exact GO.le (ih_loop6382 1 (l121_6 + 1) ⟨by decide, by decide⟩ (by first | exact bndp i6381 (by decide) (by decide) | exact bnde i6381 c6393 (by decide) (by decide) | omega) (by omega)) ⟨.inl rfl, .inl rfl, .inl rfl, .inl rfl, .inl rfl, .inl rfl, .inl rfl, trivial⟩
                    exact GO.le (loop6382 _ 0 0 ⟨by decide, by decide⟩ ⟨by decide, by decide⟩ (Nat.lt_succ_self _)) ⟨.inl rfl, .inl rfl, .inl rfl, .inl rfl, .inl rfl, .inl rfl, .inl rfl, trivial⟩
                  · skip
                    refine go_toq PM221 (k := 2) (pc' := 116) (L' := [some (.inr (.inr (some 79))), none, some (.inl l17_2), some (.inl l81_3), some (.inl l81_4), none, none]) (st' := [.inl 1]) (w' := (SH, dt276)) rfl ?_
                    exact GO.le (j6258 ) ⟨.inl rfl, .inl rfl, .inl rfl, .inl rfl, .inl rfl, .inl rfl, .inl rfl, trivial⟩
          exact GO.le (loop6123 _ (-1) 0 ⟨by decide, by decide⟩ ⟨by decide, by decide⟩ (Nat.lt_succ_self _)) ⟨.inl rfl, .inr ⟨rfl, trivial⟩, .inl rfl, .inl rfl, .inl rfl, .inl rfl, .inl rfl, trivial⟩
        · skip
          refine go_toq PM221 (k := 2) (pc' := 26) (L' := [some (.inr (.inr (some 79))), some (.inl p1), some (.inl l17_2), some (.inl l17_3), some (.inl 0), none, none]) (st' := []) (w' := (SH, dt276)) rfl ?_
          have loop6465 : ∀ (k_ : Nat) (l26_2 : Int) (l26_4 : Int) (dt6459 : Nat → Nat → Int) (hI6460 : InvC dt6459) (hF6461 : Fr [88, 89, 90, 91, 92, 93, 94, 95, 96, 97, 98, 99, 100, 101] dt dt6459) (i6462 : 0 ≤ l26_2 ∧ l26_2 ≤ 64) (i6463 : 0 ≤ l26_4 ∧ l26_4 ≤ 7) (i6464 : l26_2 ≤ 8 * l17_3 + l26_4), (8 - l26_4).toNat < k_ → GO (am_XX L xs sio) (d + 6) 221 26 [some (.inr (.inr (some 79))), some (.inl p1), some (.inl l26_2), some (.inl l17_3), some (.inl l26_4), none, none] [] (SH, dt6459) (fun r w2 => ∃ dt2 : Nat → Nat → Int, w2 = (SH, dt2) ∧ InvC dt2 ∧ Fr [88, 89, 90, 91, 92, 93, 94, 95, 96, 97, 98, 99, 100, 101] dt dt2 ∧ ((∃ v : Int, r = some (.inl v) ∧ ((-1) ≤ v ∧ v ≤ 2147483647) ∧ True))) := by
            intro k_
            induction k_ with
            | zero => intro l26_2 l26_4 dt6459 hI6460 hF6461 i6462 i6463 i6464 hm; exact absurd hm (Nat.not_lt_zero _)
            | succ k_ ih_loop6465 =>
              intro l26_2 l26_4 dt6459 hI6460 hF6461 i6462 i6463 i6464 hm
              refine go_ifq PM221 (k := 2) (p1 := 70) (p2 := 32) (L' := [some (.inr (.inr (some 79))), some (.inl p1), some (.inl l26_2), some (.inl l17_3), some (.inl l26_4), none, none]) (st' := []) (w' := (SH, dt6459)) rfl (c_ge (a := l26_4) (b := l17_3) (by first | exact bnd i6463 (by decide) (by decide) | exact ⟨by fail, by fail⟩) (by first | exact bnd i280 (by decide) (by decide) | exact bndd i280 c360 (by decide) (by decide) | exact ⟨by fail, by fail⟩)) (fun c6480 => ?_) (fun c6480 => ?_)
              · skip
                refine go_toq PM221 (k := 2) (pc' := 17) (L' := [some (.inr (.inr (some 79))), some (.inl p1), some (.inl l26_2), some (.inl (l17_3 + 1)), some (.inl l26_4), none, none]) (st' := []) (w' := (SH, dt6459)) rfl ?_
                exact GO.le (ih_loop282 l26_2 (l17_3 + 1) dt6459 hI6460 hF6461 (by first | exact bnd i6462 (by decide) (by decide) | fail) (by first | exact bndp i280 (by decide) (by decide) | exact bnde i280 c360 (by decide) (by decide) | fail) (by omega) (by omega)) ⟨.inl rfl, .inl rfl, .inl rfl, .inl rfl, .inr ⟨rfl, trivial⟩, .inl rfl, .inl rfl, trivial⟩
              · skip
                have r6481 : 0 ≤ am_shr p1 l17_3 ∧ am_shr p1 l17_3 ≤ p1 := shr_N ⟨by omega, by omega⟩
                have r6482 : 0 ≤ am_shr p1 l26_4 ∧ am_shr p1 l26_4 ≤ p1 := shr_N ⟨by omega, by omega⟩
                have r6483 : 0 ≤ am_and (am_shr p1 l17_3) (am_shr p1 l26_4) ∧ am_and (am_shr p1 l17_3) (am_shr p1 l26_4) ≤ 255 := am_and_N (n := 8) ⟨by omega, by omega⟩ ⟨by omega, by omega⟩ (by decide) (by decide)
                have r6484 : 0 ≤ am_and (am_and (am_shr p1 l17_3) (am_shr p1 l26_4)) 1 ∧ am_and (am_and (am_shr p1 l17_3) (am_shr p1 l26_4)) 1 ≤ 1 := and_R1
                have j6493 : ∀ (j6493_a2 : Int) (j6493_d : Nat → Nat → Int) (j6493_hI : InvC j6493_d) (j6493_hF : Fr [88, 89, 90, 91, 92, 93, 94, 95, 96, 97, 98, 99, 100, 101] dt j6493_d) (i6494 : 0 ≤ j6493_a2 ∧ j6493_a2 ≤ 65) (i6495 : l26_2 + 0 ≤ j6493_a2 ∧ j6493_a2 ≤ l26_2 + 1), GO (am_XX L xs sio) (d + 6) 221 64 [some (.inr (.inr (some 79))), some (.inl p1), some (.inl j6493_a2), some (.inl l17_3), some (.inl l26_4), none, none] [] (SH, j6493_d) (fun r w2 => ∃ dt2 : Nat → Nat → Int, w2 = (SH, dt2) ∧ InvC dt2 ∧ Fr [88, 89, 90, 91, 92, 93, 94, 95, 96, 97, 98, 99, 100, 101] dt dt2 ∧ ((∃ v : Int, r = some (.inl v) ∧ ((-1) ≤ v ∧ v ≤ 2147483647) ∧ True))) := by
                  intro j6493_a2 j6493_d j6493_hI j6493_hF i6494 i6495
                  refine go_toq PM221 (k := 2) (pc' := 26) (L' := [some (.inr (.inr (some 79))), some (.inl p1), some (.inl j6493_a2), some (.inl l17_3), some (.inl (l26_4 + 1)), none, none]) (st' := []) (w' := (SH, j6493_d)) rfl ?_
                  exact GO.le (ih_loop6465 j6493_a2 (l26_4 + 1) j6493_d j6493_hI j6493_hF (by first | exact bnd i6494 (by decide) (by decide) | omega) (by first | exact bndp i6463 (by decide) (by decide) | exact bnde i6463 c6480 (by decide) (by decide) | omega) (by omega) (by omega)) ⟨.inl rfl, .inl rfl, .inl rfl, .inl rfl, .inl rfl, .inl rfl, .inl rfl, trivial⟩
                refine go_ifq PM221 (k := 9) (p1 := 48) (p2 := 45) (L' := [some (.inr (.inr (some 79))), some (.inl p1), some (.inl l26_2), some (.inl l17_3), some (.inl l26_4), none, none]) (st' := []) (w' := (SH, dt6459)) rfl (z_ne (a := am_and (am_and (am_shr p1 l17_3) (am_shr p1 l26_4)) 1) (by first | exact bnd r6484 (by decide) (by decide) | exact ⟨by fail, by fail⟩)) (fun c6496 => ?_) (fun c6496 => ?_)
                · skip
                  replace c6496 := hid c6496
                  refine go_toq PM221 (k := 6) (pc' := 57) (L' := [some (.inr (.inr (some 79))), some (.inl p1), some (.inl l26_2), some (.inl l17_3), some (.inl l26_4), none, none]) (st' := [.inl l26_4, .inl l17_3, .inr (.inr (some 79)), .inl l26_2, .inr (.inr (some 101))]) (w' := (SH, dt6459)) rfl ?_
                  refine go_callq PM221 PM218 (Q' := _) rfl rfl rfl rfl (sp_X6_partedBy L xs sio (d + 0) dt6459 hI6460 (MW_fr hM hF6461 (by decide))  l17_3 (by first | exact bnd i280 (by decide) (by decide) | exact bndd i280 c360 (by decide) (by decide) | exact ⟨by fail, by fail⟩) l26_4 (by first | exact bnd i6463 (by decide) (by decide) | exact bndd i6463 c6480 (by decide) (by decide) | exact ⟨by fail, by fail⟩) ) ?_
                  rintro _ _ ⟨dt6498, rfl, hI6499, hF6500, h6497⟩
                  refine ⟨rfl, ?_⟩
                  have hF6501 : Fr [88, 89, 90, 91, 92, 93, 94, 95, 96, 97, 98, 99, 100, 101] dt dt6498 := Fr_tr hF6461 hF6500 (by decide)
                  rcases h6497 with ⟨v_h6497, rfl, h6497r, h6497⟩
                  have hI6502 : InvC (u2 dt6498 101 (l26_2).toNat v_h6497) := InvC_u2 hI6499 (lo := -2147483648) (hi := 2147483647) rfl rfl rfl (by first | exact bnd1 h6497r (by decide) | fail) (by first | exact bnd2 h6497r (by decide) | fail)
                  have hF6503 : Fr [88, 89, 90, 91, 92, 93, 94, 95, 96, 97, 98, 99, 100, 101] dt (u2 dt6498 101 (l26_2).toNat v_h6497) := Fr_u2 hF6501 (by decide)
                  refine go_smpq PM221 (L' := [some (.inr (.inr (some 79))), some (.inl p1), some (.inl l26_2), some (.inl l17_3), some (.inl l26_4), none, none]) (st' := []) (w' := (SH, (u2 dt6498 101 (l26_2).toNat v_h6497))) rfl rfl (s_iast (n := 64) rfl ⟨by omega, by omega⟩ ⟨by omega, by omega⟩) ?_
                  refine go_toq PM221 (k := 1) (pc' := 64) (L' := [some (.inr (.inr (some 79))), some (.inl p1), some (.inl (l26_2 + 1)), some (.inl l17_3), some (.inl l26_4), none, none]) (st' := []) (w' := (SH, (u2 dt6498 101 (l26_2).toNat v_h6497))) rfl ?_
                  exact GO.le (j6493 (l26_2 + 1) (u2 dt6498 101 (l26_2).toNat v_h6497) hI6502 hF6503 (by first | exact bndp i6462 (by decide) (by decide) | fail) (by omega)) ⟨.inl rfl, .inl rfl, .inl rfl, .inl rfl, .inl rfl, .inl rfl, .inl rfl, trivial⟩
                · skip
                  refine go_toq PM221 (k := 1) (pc' := 64) (L' := [some (.inr (.inr (some 79))), some (.inl p1), some (.inl l26_2), some (.inl l17_3), some (.inl l26_4), none, none]) (st' := []) (w' := (SH, dt6459)) rfl ?_
                  exact GO.le (j6493 l26_2 dt6459 hI6460 hF6461 (by first | exact bnd i6462 (by decide) (by decide) | fail) (by omega)) ⟨.inl rfl, .inl rfl, .inl rfl, .inl rfl, .inl rfl, .inl rfl, .inl rfl, trivial⟩
          exact GO.le (loop6465 _ l17_2 0 dt276 hI277 hF278 (by first | exact bnd i279 (by decide) (by decide) | fail) ⟨by decide, by decide⟩ (by omega) (Nat.lt_succ_self _)) ⟨.inl rfl, .inl rfl, .inl rfl, .inl rfl, .inl rfl, .inl rfl, .inl rfl, trivial⟩
    exact GO.le (loop282 _ 0 0 dt hI hF ⟨by decide, by decide⟩ ⟨by decide, by decide⟩ (by omega) (Nat.lt_succ_self _)) ⟨.inl rfl, .inl rfl, .inl rfl, .inl rfl, .inl rfl, .inl rfl, .inl rfl, trivial⟩
  · skip
    refine go_retq PM221 (k := 2) (r := some (.inl (-1))) (w1 := (SH, dt)) rfl ?_
    exact ⟨dt, rfl, hI, hF, ⟨_, rfl, ⟨by decide, by decide⟩, trivial⟩⟩
set_option maxRecDepth 20000 in
theorem sp_X6_isTelling (L : Nat) (xs : Nat → Int32) (sio : Option Nat) (d : Nat) (dt : Nat → Nat → Int) (hI : InvC dt) (hM : MW (dt 80))  (p1 : Int) (h_p1 : 0 ≤ p1 ∧ p1 ≤ 299)  : GO (am_XX L xs sio) (d + 6) 229 0 [some (.inr (.inr (some 79))), some (.inl p1)] [] (SH, dt) (fun r w2 => ∃ dt2 : Nat → Nat → Int, w2 = (SH, dt2) ∧ InvC dt2 ∧ Fr [88, 89, 90, 91, 92, 93, 94, 95, 96, 97, 98, 99, 100] dt dt2 ∧ ((r = some (.inl 1) ∧ True) ∨ (r = some (.inl 0) ∧ True))) := by
  have hF : Fr [88, 89, 90, 91, 92, 93, 94, 95, 96, 97, 98, 99, 100] dt dt := Fr_refl
  refine go_toq PM229 (k := 4) (pc' := 4) (L' := [some (.inr (.inr (some 79))), some (.inl p1)]) (st' := [.inl 1, .inl p1, .inr (.inr (some 79)), .inr (.inr (some 79))]) (w' := (SH, dt)) rfl ?_
  refine go_callq PM229 PM209 (Q' := _) rfl rfl rfl rfl (sp_X6_ofAnswer_1 L xs sio (d + 5) dt hI hM  p1 (by first | exact h_p1 | exact bnd h_p1 (by decide) (by decide) | exact ⟨by fail, by fail⟩) ) ?_
  rintro _ _ ⟨rfl, h1⟩
  refine ⟨rfl, ?_⟩
  rcases h1 with ⟨rfl, h1⟩
  refine go_toq PM229 (k := 1) (pc' := 8) (L' := [some (.inr (.inr (some 79))), some (.inl p1)]) (st' := [.inl 1, .inl (dt 80 (((5540 + (6 * p1)) + 1)).toNat), .inr (.inr (some 79))]) (w' := (SH, dt)) rfl ?_
  refine go_callq PM229 PM191 (Q' := _) rfl rfl rfl rfl (sp_X6_asked_1 L xs sio (d + 5) dt hI hM  (dt 80 (((5540 + (6 * p1)) + 1)).toNat) ⟨by omega, by omega⟩ ) ?_
  rintro _ _ ⟨rfl, h2⟩
  refine ⟨rfl, ?_⟩
  rcases h2 with ⟨rfl, h2⟩
  have j10 : ∀ (j10_d : Nat → Nat → Int) (j10_hI : InvC j10_d) (j10_hF : Fr [88, 89, 90, 91, 92, 93, 94, 95, 96, 97, 98, 99, 100] dt j10_d), GO (am_XX L xs sio) (d + 6) 229 32 [some (.inr (.inr (some 79))), none] [.inl 0] (SH, j10_d) (fun r w2 => ∃ dt2 : Nat → Nat → Int, w2 = (SH, dt2) ∧ InvC dt2 ∧ Fr [88, 89, 90, 91, 92, 93, 94, 95, 96, 97, 98, 99, 100] dt dt2 ∧ ((r = some (.inl 1) ∧ True) ∨ (r = some (.inl 0) ∧ True))) := by
    intro j10_d j10_hI j10_hF
    refine go_retq PM229 (k := 0) (r := some (.inl 0)) (w1 := (SH, j10_d)) rfl ?_
    exact ⟨j10_d, rfl, j10_hI, j10_hF, (Or.inr ⟨rfl, trivial⟩)⟩
  refine go_ifq PM229 (k := 0) (p1 := 31) (p2 := 14) (L' := [some (.inr (.inr (some 79))), some (.inl p1)]) (st' := []) (w' := (SH, dt)) rfl (z_ne (a := dt 80 (((5320 + (5 * (dt 80 (((5540 + (6 * p1)) + 1)).toNat))) + 1)).toNat) ⟨by omega, by omega⟩) (fun c11 => ?_) (fun c11 => ?_)
  · skip
    replace c11 := hid c11
    refine go_toq PM229 (k := 1) (pc' := 32) (L' := [some (.inr (.inr (some 79))), some (.inl p1)]) (st' := [.inl 0]) (w' := (SH, dt)) rfl ?_
    exact GO.le (j10 dt hI hF) ⟨.inl rfl, .inr ⟨rfl, trivial⟩, trivial⟩
  · skip
    refine go_toq PM229 (k := 4) (pc' := 18) (L' := [some (.inr (.inr (some 79))), some (.inl p1)]) (st' := [.inl 1, .inl p1, .inr (.inr (some 79)), .inr (.inr (some 79))]) (w' := (SH, dt)) rfl ?_
    refine go_callq PM229 PM209 (Q' := _) rfl rfl rfl rfl (sp_X6_ofAnswer_1 L xs sio (d + 5) dt hI hM  p1 (by first | exact h_p1 | exact bnd h_p1 (by decide) (by decide) | exact ⟨by fail, by fail⟩) ) ?_
    rintro _ _ ⟨rfl, h12⟩
    refine ⟨rfl, ?_⟩
    rcases h12 with ⟨rfl, h12⟩
    refine go_callq PM229 PM196 (Q' := _) rfl rfl rfl rfl (sp_X6_tellsSome L xs sio (d + 0) dt hI hM  (dt 80 (((5540 + (6 * p1)) + 1)).toNat) ⟨by omega, by omega⟩ ) ?_
    rintro _ _ ⟨dt14, rfl, hI15, hF16, h13⟩
    refine ⟨rfl, ?_⟩
    have hF17 : Fr [88, 89, 90, 91, 92, 93, 94, 95, 96, 97, 98, 99, 100] dt dt14 := Fr_tr hF hF16 (by decide)
    rcases h13 with ⟨rfl, h13⟩ | ⟨rfl, h13⟩
    · skip
      refine go_retq PM229 (k := 3) (r := some (.inl 1)) (w1 := (SH, dt14)) rfl ?_
      exact ⟨dt14, rfl, hI15, hF17, (Or.inl ⟨rfl, trivial⟩)⟩
    · skip
      refine go_toq PM229 (k := 2) (pc' := 32) (L' := [some (.inr (.inr (some 79))), some (.inl p1)]) (st' := [.inl 0]) (w' := (SH, dt14)) rfl ?_
      exact GO.le (j10 dt14 hI15 hF17) ⟨.inl rfl, .inr ⟨rfl, trivial⟩, trivial⟩
set_option maxRecDepth 20000 in
theorem sp_X6_passes (L : Nat) (xs : Nat → Int32) (sio : Option Nat) (d : Nat) (dt : Nat → Nat → Int) (hI : InvC dt) (hM : MW (dt 80))  (p1 : Int) (h_p1 : 0 ≤ p1 ∧ p1 ≤ 39) (p2 : Int) (h_p2 : 0 ≤ p2 ∧ p2 ≤ 1)  : GO (am_XX L xs sio) (d + 6) 231 0 [some (.inr (.inr (some 79))), some (.inl p1), some (.inl p2), none, none, none] [] (SH, dt) (fun r w2 => ∃ dt2 : Nat → Nat → Int, w2 = (SH, dt2) ∧ InvC dt2 ∧ Fr [88, 89, 90, 91, 92, 93, 94, 95, 96, 97, 98, 99, 100] dt dt2 ∧ ((∃ v : Int, r = some (.inl v) ∧ ((-1) ≤ v ∧ v ≤ 1) ∧ True))) := by
  have hF : Fr [88, 89, 90, 91, 92, 93, 94, 95, 96, 97, 98, 99, 100] dt dt := Fr_refl
  refine go_toq PM231 (k := 4) (pc' := 5) (L' := [some (.inr (.inr (some 79))), some (.inl p1), some (.inl p2), some (.inl (-1)), some (.inl 0), none]) (st' := []) (w' := (SH, dt)) rfl ?_
  have loop150 : ∀ (k_ : Nat) (l5_3 : Int) (l5_4 : Int) (dt145 : Nat → Nat → Int) (hI146 : InvC dt145) (hF147 : Fr [88, 89, 90, 91, 92, 93, 94, 95, 96, 97, 98, 99, 100] dt dt145) (i148 : (-1) ≤ l5_3 ∧ l5_3 ≤ 1) (i149 : 0 ≤ l5_4 ∧ l5_4 ≤ 300), (301 - l5_4).toNat < k_ → GO (am_XX L xs sio) (d + 6) 231 5 [some (.inr (.inr (some 79))), some (.inl p1), some (.inl p2), some (.inl l5_3), some (.inl l5_4), none] [] (SH, dt145) (fun r w2 => ∃ dt2 : Nat → Nat → Int, w2 = (SH, dt2) ∧ InvC dt2 ∧ Fr [88, 89, 90, 91, 92, 93, 94, 95, 96, 97, 98, 99, 100] dt dt2 ∧ ((∃ v : Int, r = some (.inl v) ∧ ((-1) ≤ v ∧ v ≤ 1) ∧ True))) := by
    intro k_
    induction k_ with
    | zero => intro l5_3 l5_4 dt145 hI146 hF147 i148 i149 hm; exact absurd hm (Nat.not_lt_zero _)
    | succ k_ ih_loop150 =>
      intro l5_3 l5_4 dt145 hI146 hF147 i148 i149 hm
      refine go_toq PM231 (k := 4) (pc' := 12) (L' := [some (.inr (.inr (some 79))), some (.inl p1), some (.inl p2), some (.inl l5_3), some (.inl l5_4), none]) (st' := [.inl 3, .inr (.inr (some 80)), .inl l5_4]) (w' := (SH, dt145)) rfl ?_
      have r151 : (-2147483648) ≤ dt 80 3 ∧ dt 80 3 ≤ 2147483647 := InvC_get hI 80 3 rfl rfl
      have r152 := MW_n hM
      refine go_smpq PM231 (L' := [some (.inr (.inr (some 79))), some (.inl p1), some (.inl p2), some (.inl l5_3), some (.inl l5_4), none]) (st' := [.inl (dt 80 3), .inl l5_4]) (w' := (SH, dt145)) rfl rfl (s_ev (s_iald (n := 7460) (f := dt145 80) rfl ⟨by decide, by decide⟩) (hF147 80 (by decide) _)) ?_
      refine go_ifq PM231 (k := 0) (p1 := 88) (p2 := 16) (L' := [some (.inr (.inr (some 79))), some (.inl p1), some (.inl p2), some (.inl l5_3), some (.inl l5_4), none]) (st' := []) (w' := (SH, dt145)) rfl (c_ge (a := l5_4) (b := dt 80 3) (by first | exact bnd i149 (by decide) (by decide) | exact ⟨by fail, by fail⟩) (by first | exact bnd r151 (by decide) (by decide) | exact ⟨by fail, by fail⟩)) (fun c168 => ?_) (fun c168 => ?_)
      · skip
        refine go_retq PM231 (k := 1) (r := some (.inl l5_3)) (w1 := (SH, dt145)) rfl ?_
        exact ⟨dt145, rfl, hI146, hF147, ⟨_, rfl, (by first | exact bnd i148 (by decide) (by decide) | exact ⟨by fail, by fail⟩), trivial⟩⟩
      · skip
        refine go_toq PM231 (k := 3) (pc' := 20) (L' := [some (.inr (.inr (some 79))), some (.inl p1), some (.inl p2), some (.inl l5_3), some (.inl l5_4), none]) (st' := [.inl 1, .inl l5_4, .inr (.inr (some 79))]) (w' := (SH, dt145)) rfl ?_
        refine go_callq PM231 PM209 (Q' := _) rfl rfl rfl rfl (sp_X6_ofAnswer_1 L xs sio (d + 5) dt145 hI146 (MW_fr hM hF147 (by decide))  l5_4 (by first | exact bnd i149 (by decide) (by decide) | exact bndd i149 c168 (by decide) (by decide) | exact ⟨by omega, by omega⟩) ) ?_
        rintro _ _ ⟨rfl, h169⟩
        refine ⟨rfl, ?_⟩
        rcases h169 with ⟨rfl, h169⟩
        refine go_toq PM231 (k := 4) (pc' := 29) (L' := [some (.inr (.inr (some 79))), some (.inl p1), some (.inl p2), some (.inl l5_3), some (.inl l5_4), some (.inl (dt145 80 (((5540 + (6 * l5_4)) + 1)).toNat))]) (st' := [.inl 0, .inl l5_4, .inr (.inr (some 79))]) (w' := (SH, dt145)) rfl ?_
        refine go_callq PM231 PM209 (Q' := _) rfl rfl rfl rfl (sp_X6_ofAnswer_0 L xs sio (d + 5) dt145 hI146 (MW_fr hM hF147 (by decide))  l5_4 (by first | exact bnd i149 (by decide) (by decide) | exact bndd i149 c168 (by decide) (by decide) | exact ⟨by omega, by omega⟩) ) ?_
        rintro _ _ ⟨rfl, h170⟩
        refine ⟨rfl, ?_⟩
        rcases h170 with ⟨rfl, h170⟩
        have j182 : ∀ (j182_d : Nat → Nat → Int) (j182_hI : InvC j182_d) (j182_hF : Fr [88, 89, 90, 91, 92, 93, 94, 95, 96, 97, 98, 99, 100] dt j182_d), GO (am_XX L xs sio) (d + 6) 231 82 [some (.inr (.inr (some 79))), some (.inl p1), some (.inl p2), some (.inl l5_3), some (.inl l5_4), none] [] (SH, j182_d) (fun r w2 => ∃ dt2 : Nat → Nat → Int, w2 = (SH, dt2) ∧ InvC dt2 ∧ Fr [88, 89, 90, 91, 92, 93, 94, 95, 96, 97, 98, 99, 100] dt dt2 ∧ ((∃ v : Int, r = some (.inl v) ∧ ((-1) ≤ v ∧ v ≤ 1) ∧ True))) := by
          intro j182_d j182_hI j182_hF
          refine go_toq PM231 (k := 2) (pc' := 5) (L' := [some (.inr (.inr (some 79))), some (.inl p1), some (.inl p2), some (.inl l5_3), some (.inl (l5_4 + 1)), none]) (st' := []) (w' := (SH, j182_d)) rfl ?_
          exact GO.le (ih_loop150 l5_3 (l5_4 + 1) j182_d j182_hI j182_hF (by first | exact bnd i148 (by decide) (by decide) | fail) (by first | exact bndp i149 (by decide) (by decide) | exact bnde i149 c168 (by decide) (by decide) | omega) (by omega)) ⟨.inl rfl, .inl rfl, .inl rfl, .inl rfl, .inl rfl, .inl rfl, trivial⟩
        refine go_ifq PM231 (k := 1) (p1 := 82) (p2 := 36) (L' := [some (.inr (.inr (some 79))), some (.inl p1), some (.inl p2), some (.inl l5_3), some (.inl l5_4), some (.inl (dt145 80 (((5540 + (6 * l5_4)) + 1)).toNat))]) (st' := []) (w' := (SH, dt145)) rfl (c_ne (a := dt145 80 (((5540 + (6 * l5_4)) + 0)).toNat) (b := p1) ⟨by omega, by omega⟩ (by first | exact bnd h_p1 (by decide) (by decide) | exact ⟨by fail, by fail⟩)) (fun c183 => ?_) (fun c183 => ?_)
        · skip
          replace c183 := hid c183
          exact GO.le (j182 dt145 hI146 hF147) ⟨.inl rfl, .inl rfl, .inl rfl, .inl rfl, .inl rfl, .inr ⟨rfl, trivial⟩, trivial⟩
        · skip
          refine go_toq PM231 (k := 3) (pc' := 40) (L' := [some (.inr (.inr (some 79))), some (.inl p1), some (.inl p2), some (.inl l5_3), some (.inl l5_4), some (.inl (dt145 80 (((5540 + (6 * l5_4)) + 1)).toNat))]) (st' := [.inl 1, .inl (dt145 80 (((5540 + (6 * l5_4)) + 1)).toNat), .inr (.inr (some 79))]) (w' := (SH, dt145)) rfl ?_
          refine go_callq PM231 PM191 (Q' := _) rfl rfl rfl rfl (sp_X6_asked_1 L xs sio (d + 5) dt145 hI146 (MW_fr hM hF147 (by decide))  (dt145 80 (((5540 + (6 * l5_4)) + 1)).toNat) ⟨by omega, by omega⟩ ) ?_
          rintro _ _ ⟨rfl, h184⟩
          refine ⟨rfl, ?_⟩
          rcases h184 with ⟨rfl, h184⟩
          refine go_ifq PM231 (k := 1) (p1 := 82) (p2 := 47) (L' := [some (.inr (.inr (some 79))), some (.inl p1), some (.inl p2), some (.inl l5_3), some (.inl l5_4), some (.inl (dt145 80 (((5540 + (6 * l5_4)) + 1)).toNat))]) (st' := []) (w' := (SH, dt145)) rfl (c_ne (a := dt145 80 (((5320 + (5 * (dt145 80 (((5540 + (6 * l5_4)) + 1)).toNat))) + 1)).toNat) (b := p2) ⟨by omega, by omega⟩ (by first | exact bnd h_p2 (by decide) (by decide) | exact ⟨by fail, by fail⟩)) (fun c185 => ?_) (fun c185 => ?_)
          · skip
            replace c185 := hid c185
            exact GO.le (j182 dt145 hI146 hF147) ⟨.inl rfl, .inl rfl, .inl rfl, .inl rfl, .inl rfl, .inr ⟨rfl, trivial⟩, trivial⟩
          · skip
            refine go_toq PM231 (k := 2) (pc' := 50) (L' := [some (.inr (.inr (some 79))), some (.inl p1), some (.inl p2), some (.inl l5_3), some (.inl l5_4), some (.inl (dt145 80 (((5540 + (6 * l5_4)) + 1)).toNat))]) (st' := [.inl (dt145 80 (((5540 + (6 * l5_4)) + 1)).toNat), .inr (.inr (some 79))]) (w' := (SH, dt145)) rfl ?_
            refine go_callq PM231 PM196 (Q' := _) rfl rfl rfl rfl (sp_X6_tellsSome L xs sio (d + 0) dt145 hI146 (MW_fr hM hF147 (by decide))  (dt145 80 (((5540 + (6 * l5_4)) + 1)).toNat) ⟨by omega, by omega⟩ ) ?_
            rintro _ _ ⟨dt187, rfl, hI188, hF189, h186⟩
            refine ⟨rfl, ?_⟩
            have hF190 : Fr [88, 89, 90, 91, 92, 93, 94, 95, 96, 97, 98, 99, 100] dt dt187 := Fr_tr hF147 hF189 (by decide)
            rcases h186 with ⟨rfl, h186⟩ | ⟨rfl, h186⟩
            · skip
              refine go_toq PM231 (k := 4) (pc' := 63) (L' := [some (.inr (.inr (some 79))), some (.inl p1), some (.inl p2), some (.inl l5_3), some (.inl l5_4), some (.inl (dt145 80 (((5540 + (6 * l5_4)) + 1)).toNat))]) (st' := [.inl 3, .inl l5_4, .inr (.inr (some 79))]) (w' := (SH, dt187)) rfl ?_
              refine go_callq PM231 PM209 (Q' := _) rfl rfl rfl rfl (sp_X6_ofAnswer_3 L xs sio (d + 5) dt187 hI188 (MW_fr hM hF190 (by decide))  l5_4 (by first | exact bnd i149 (by decide) (by decide) | exact bndd i149 c168 (by decide) (by decide) | exact ⟨by omega, by omega⟩) ) ?_
              rintro _ _ ⟨rfl, h191⟩
              refine ⟨rfl, ?_⟩
              rcases h191 with ⟨rfl, h191⟩
              refine go_toq PM231 (k := 3) (pc' := 70) (L' := [some (.inr (.inr (some 79))), some (.inl p1), some (.inl p2), some (.inl l5_3), some (.inl l5_4), some (.inl (dt145 80 (((5540 + (6 * l5_4)) + 1)).toNat))]) (st' := [.inl 1, .inl (dt145 80 (((5540 + (6 * l5_4)) + 1)).toNat), .inr (.inr (some 79)), .inl (dt187 80 (((5540 + (6 * l5_4)) + 3)).toNat)]) (w' := (SH, dt187)) rfl ?_
              refine go_callq PM231 PM194 (Q' := _) rfl rfl rfl rfl (sp_X6_saysNow L xs sio (d + 4) dt187 hI188 (MW_fr hM hF190 (by decide))  (dt145 80 (((5540 + (6 * l5_4)) + 1)).toNat) ⟨by omega, by omega⟩ 1 ⟨by decide, by decide⟩ ) ?_
              rintro _ _ ⟨rfl, h192⟩
              refine ⟨rfl, ?_⟩
              rcases h192 with ⟨v_h192, rfl, h192r, h192⟩
              refine go_ifq PM231 (k := 0) (p1 := 80) (p2 := 76) (L' := [some (.inr (.inr (some 79))), some (.inl p1), some (.inl p2), some (.inl l5_3), some (.inl l5_4), some (.inl (dt145 80 (((5540 + (6 * l5_4)) + 1)).toNat))]) (st' := []) (w' := (SH, dt187)) rfl (c_ne (a := dt187 80 (((5540 + (6 * l5_4)) + 3)).toNat) (b := v_h192) ⟨by omega, by omega⟩ (by first | exact bnd h192r (by decide) (by decide) | exact ⟨by fail, by fail⟩)) (fun c194 => ?_) (fun c194 => ?_)
              · skip
                replace c194 := hid c194
                refine go_toq PM231 (k := 4) (pc' := 5) (L' := [some (.inr (.inr (some 79))), some (.inl p1), some (.inl p2), some (.inl 0), some (.inl (l5_4 + 1)), some (.inl (dt145 80 (((5540 + (6 * l5_4)) + 1)).toNat))]) (st' := []) (w' := (SH, dt187)) rfl ?_
                exact GO.le (ih_loop150 0 (l5_4 + 1) dt187 hI188 hF190 ⟨by decide, by decide⟩ (by first | exact bndp i149 (by decide) (by decide) | exact bnde i149 c168 (by decide) (by decide) | omega) (by omega)) ⟨.inl rfl, .inl rfl, .inl rfl, .inl rfl, .inl rfl, .inr ⟨rfl, trivial⟩, trivial⟩
              · skip
                refine go_toq PM231 (k := 5) (pc' := 5) (L' := [some (.inr (.inr (some 79))), some (.inl p1), some (.inl p2), some (.inl 1), some (.inl (l5_4 + 1)), some (.inl (dt145 80 (((5540 + (6 * l5_4)) + 1)).toNat))]) (st' := []) (w' := (SH, dt187)) rfl ?_
                exact GO.le (ih_loop150 1 (l5_4 + 1) dt187 hI188 hF190 ⟨by decide, by decide⟩ (by first | exact bndp i149 (by decide) (by decide) | exact bnde i149 c168 (by decide) (by decide) | omega) (by omega)) ⟨.inl rfl, .inl rfl, .inl rfl, .inl rfl, .inl rfl, .inr ⟨rfl, trivial⟩, trivial⟩
            · skip
              refine go_toq PM231 (k := 2) (pc' := 82) (L' := [some (.inr (.inr (some 79))), some (.inl p1), some (.inl p2), some (.inl l5_3), some (.inl l5_4), some (.inl (dt145 80 (((5540 + (6 * l5_4)) + 1)).toNat))]) (st' := []) (w' := (SH, dt187)) rfl ?_
              exact GO.le (j182 dt187 hI188 hF190) ⟨.inl rfl, .inl rfl, .inl rfl, .inl rfl, .inl rfl, .inr ⟨rfl, trivial⟩, trivial⟩
  exact GO.le (loop150 _ (-1) 0 dt hI hF ⟨by decide, by decide⟩ ⟨by decide, by decide⟩ (Nat.lt_succ_self _)) ⟨.inl rfl, .inl rfl, .inl rfl, .inl rfl, .inl rfl, .inl rfl, trivial⟩
set_option maxRecDepth 20000 in
theorem sp_X6_pulls (L : Nat) (xs : Nat → Int32) (sio : Option Nat) (d : Nat) (dt : Nat → Nat → Int) (hI : InvC dt) (hM : MW (dt 80))  (p1 : Int) (h_p1 : (-2147483648) ≤ p1 ∧ p1 ≤ 2147483647) (p2 : Int) (h_p2 : (-2147483648) ≤ p2 ∧ p2 ≤ 2147483647)  : GO (am_XX L xs sio) (d + 7) 230 0 [some (.inr (.inr (some 79))), some (.inl p1), some (.inl p2), none, none, none, none, none] [] (SH, dt) (fun r w2 => ∃ dt2 : Nat → Nat → Int, w2 = (SH, dt2) ∧ InvC dt2 ∧ Fr [88, 89, 90, 91, 92, 93, 94, 95, 96, 97, 98, 99, 100] dt dt2 ∧ ((∃ v : Int, r = some (.inl v) ∧ True ∧ True))) := by
  have hF : Fr [88, 89, 90, 91, 92, 93, 94, 95, 96, 97, 98, 99, 100] dt dt := Fr_refl
  refine go_toq PM230 (k := 3) (pc' := 3) (L' := [some (.inr (.inr (some 79))), some (.inl p1), some (.inl p2), none, none, none, none, none]) (st' := [.inl 3, .inl (-1), .inl p1]) (w' := (SH, dt)) rfl ?_
  refine go_callq PM230 PM146 (Q' := _) rfl rfl rfl rfl (sp_X6_isIn L xs sio (d + 6) dt hI  p1 (by first | exact h_p1 | exact bnd h_p1 (by decide) (by decide) | exact ⟨by fail, by fail⟩) (-1) ⟨by decide, by decide⟩ 3 ⟨by decide, by decide⟩ ) ?_
  rintro _ _ ⟨rfl, h1⟩
  refine ⟨rfl, ?_⟩
  rcases h1 with ⟨rfl, h1⟩ | ⟨rfl, h1⟩
  · skip
    refine go_toq PM230 (k := 4) (pc' := 12) (L' := [some (.inr (.inr (some 79))), some (.inl p1), some (.inl p2), none, none, none, none, none]) (st' := [.inl 4, .inl 0, .inl p2]) (w' := (SH, dt)) rfl ?_
    refine go_callq PM230 PM146 (Q' := _) rfl rfl rfl rfl (sp_X6_isIn L xs sio (d + 6) dt hI  p2 (by first | exact h_p2 | exact bnd h_p2 (by decide) (by decide) | exact ⟨by fail, by fail⟩) 0 ⟨by decide, by decide⟩ 4 ⟨by decide, by decide⟩ ) ?_
    rintro _ _ ⟨rfl, h2⟩
    refine ⟨rfl, ?_⟩
    rcases h2 with ⟨rfl, h2⟩ | ⟨rfl, h2⟩
    · skip
      refine go_toq PM230 (k := 7) (pc' := 28) (L' := [some (.inr (.inr (some 79))), some (.inl p1), some (.inl p2), some (.inl 0), some (.inl 0), some (.inl 0), none, none]) (st' := []) (w' := (SH, dt)) rfl ?_
      have loop295 : ∀ (k_ : Nat) (l28_3 : Int) (l28_4 : Int) (l28_5 : Int) (dt289 : Nat → Nat → Int) (hI290 : InvC dt289) (hF291 : Fr [88, 89, 90, 91, 92, 93, 94, 95, 96, 97, 98, 99, 100] dt dt289) (i292 : 0 ≤ l28_3 ∧ l28_3 ≤ 300) (i293 : 0 ≤ l28_5 ∧ l28_5 ≤ 300) (i294 : l28_3 ≤ l28_5), (301 - l28_5).toNat < k_ → GO (am_XX L xs sio) (d + 7) 230 28 [some (.inr (.inr (some 79))), some (.inl p1), some (.inl p2), some (.inl l28_3), some (.inl l28_4), some (.inl l28_5), none, none] [] (SH, dt289) (fun r w2 => ∃ dt2 : Nat → Nat → Int, w2 = (SH, dt2) ∧ InvC dt2 ∧ Fr [88, 89, 90, 91, 92, 93, 94, 95, 96, 97, 98, 99, 100] dt dt2 ∧ ((∃ v : Int, r = some (.inl v) ∧ True ∧ True))) := by
        intro k_
        induction k_ with
        | zero => intro l28_3 l28_4 l28_5 dt289 hI290 hF291 i292 i293 i294 hm; exact absurd hm (Nat.not_lt_zero _)
        | succ k_ ih_loop295 =>
          intro l28_3 l28_4 l28_5 dt289 hI290 hF291 i292 i293 i294 hm
          refine go_toq PM230 (k := 4) (pc' := 35) (L' := [some (.inr (.inr (some 79))), some (.inl p1), some (.inl p2), some (.inl l28_3), some (.inl l28_4), some (.inl l28_5), none, none]) (st' := [.inl 3, .inr (.inr (some 80)), .inl l28_5]) (w' := (SH, dt289)) rfl ?_
          have r296 : (-2147483648) ≤ dt 80 3 ∧ dt 80 3 ≤ 2147483647 := InvC_get hI 80 3 rfl rfl
          have r297 := MW_n hM
          refine go_smpq PM230 (L' := [some (.inr (.inr (some 79))), some (.inl p1), some (.inl p2), some (.inl l28_3), some (.inl l28_4), some (.inl l28_5), none, none]) (st' := [.inl (dt 80 3), .inl l28_5]) (w' := (SH, dt289)) rfl rfl (s_ev (s_iald (n := 7460) (f := dt289 80) rfl ⟨by decide, by decide⟩) (hF291 80 (by decide) _)) ?_
          refine go_ifq PM230 (k := 0) (p1 := 108) (p2 := 39) (L' := [some (.inr (.inr (some 79))), some (.inl p1), some (.inl p2), some (.inl l28_3), some (.inl l28_4), some (.inl l28_5), none, none]) (st' := []) (w' := (SH, dt289)) rfl (c_ge (a := l28_5) (b := dt 80 3) (by first | exact bnd i293 (by decide) (by decide) | exact ⟨by fail, by fail⟩) (by first | exact bnd r296 (by decide) (by decide) | exact ⟨by fail, by fail⟩)) (fun c321 => ?_) (fun c321 => ?_)
          · skip
            refine go_ifq PM230 (k := 2) (p1 := 124) (p2 := 113) (L' := [some (.inr (.inr (some 79))), some (.inl p1), some (.inl p2), some (.inl l28_3), some (.inl l28_4), some (.inl l28_5), none, none]) (st' := []) (w' := (SH, dt289)) rfl (c_ge (a := p2) (b := 2) (by first | exact bnd h_p2 (by decide) (by decide) | exact ⟨by fail, by fail⟩) ⟨by decide, by decide⟩) (fun c322 => ?_) (fun c322 => ?_)
            · skip
              refine go_ifq PM230 (k := 1) (p1 := 130) (p2 := 128) (L' := [some (.inr (.inr (some 79))), some (.inl p1), some (.inl p2), some (.inl l28_3), some (.inl l28_4), some (.inl l28_5), none, none]) (st' := []) (w' := (SH, dt289)) rfl (z_ne (a := l28_3) (by first | exact bnd i292 (by decide) (by decide) | exact ⟨by fail, by fail⟩)) (fun c323 => ?_) (fun c323 => ?_)
              · skip
                replace c323 := hid c323
                refine go_toq PM230 (k := 4) (pc' := 137) (L' := [some (.inr (.inr (some 79))), some (.inl p1), some (.inl p2), some (.inl l28_3), some (.inl l28_4), some (.inl l28_5), none, none]) (st' := [.inl l28_3, .inl (1000 * l28_4)]) (w' := (SH, dt289)) rfl ?_
                refine go_smpq PM230 (L' := [some (.inr (.inr (some 79))), some (.inl p1), some (.inl p2), some (.inl l28_3), some (.inl l28_4), some (.inl l28_5), none, none]) (st' := [.inl ((wr (1000 * l28_4)).tdiv (wr l28_3))]) (w' := (SH, dt289)) rfl rfl (s_idiv (by rw [wr_R ⟨by omega, by omega⟩]; (have z_ := unhid c323; omega))) ?_
                refine go_toq PM230 (k := 3) (pc' := 144) (L' := [some (.inr (.inr (some 79))), some (.inl p1), some (.inl p2), some (.inl l28_3), some (.inl l28_4), some (.inl ((wr (1000 * l28_4)).tdiv (wr l28_3))), none, none]) (st' := [.inl l28_3, .inl 1000]) (w' := (SH, dt289)) rfl ?_
                refine go_callq PM230 PM148 (Q' := _) rfl rfl rfl rfl (sp_X6_root L xs sio (d + 6) dt289 hI290  l28_3 (by first | exact bnd i292 (by decide) (by decide) | exact ⟨by fail, by fail⟩) ) ?_
                rintro _ _ ⟨rfl, h324⟩
                refine ⟨rfl, ?_⟩
                rcases h324 with ⟨v_h324, rfl, h324r, h324⟩
                refine go_smpq PM230 (L' := [some (.inr (.inr (some 79))), some (.inl p1), some (.inl p2), some (.inl l28_3), some (.inl l28_4), some (.inl ((wr (1000 * l28_4)).tdiv (wr l28_3))), none, none]) (st' := [.inl ((wr 1000).tdiv (wr v_h324))]) (w' := (SH, dt289)) rfl rfl (s_idiv (by rw [wr_R ⟨by omega, by omega⟩]; (have z_ := unhid c323; omega))) ?_
                have j327 : ∀ (j327_s0 : Int), GO (am_XX L xs sio) (d + 7) 230 178 [some (.inr (.inr (some 79))), none, none, none, none, none, none, none] [.inl j327_s0] (SH, dt289) (fun r w2 => ∃ dt2 : Nat → Nat → Int, w2 = (SH, dt2) ∧ InvC dt2 ∧ Fr [88, 89, 90, 91, 92, 93, 94, 95, 96, 97, 98, 99, 100] dt dt2 ∧ ((∃ v : Int, r = some (.inl v) ∧ True ∧ True))) := by
                  intro j327_s0
                  have r334 := wr_RR j327_s0
                  refine go_ifq PM230 (k := 2) (p1 := 189) (p2 := 185) (L' := [some (.inr (.inr (some 79))), none, none, none, none, none, none, some (.inl j327_s0)]) (st' := []) (w' := (SH, dt289)) rfl (u_ge (a := wr j327_s0) (b := 0)) (fun c333 => ?_) (fun c333 => ?_)
                  · skip
                    have r339 := wr_RR j327_s0
                    have r340 := wr_RR 1000
                    refine go_ifq PM230 (k := 2) (p1 := 203) (p2 := 197) (L' := [some (.inr (.inr (some 79))), none, none, none, none, none, none, some (.inl j327_s0)]) (st' := []) (w' := (SH, dt289)) rfl (u_le (a := wr j327_s0) (b := wr 1000)) (fun c338 => ?_) (fun c338 => ?_)
                    · skip
                      refine go_retq PM230 (k := 1) (r := some (.inl j327_s0)) (w1 := (SH, dt289)) rfl ?_
                      exact ⟨dt289, rfl, hI290, hF291, ⟨_, rfl, trivial, trivial⟩⟩
                    · skip
                      refine go_retq PM230 (k := 2) (r := some (.inl 1000)) (w1 := (SH, dt289)) rfl ?_
                      exact ⟨dt289, rfl, hI290, hF291, ⟨_, rfl, trivial, trivial⟩⟩
                  · skip
                    refine go_retq PM230 (k := 2) (r := some (.inl 0)) (w1 := (SH, dt289)) rfl ?_
                    exact ⟨dt289, rfl, hI290, hF291, ⟨_, rfl, trivial, trivial⟩⟩
                refine go_ifq PM230 (k := 3) (p1 := 160) (p2 := 155) (L' := [some (.inr (.inr (some 79))), some (.inl p1), some (.inl p2), some (.inl l28_3), some (.inl l28_4), some (.inl ((wr (1000 * l28_4)).tdiv (wr l28_3))), some (.inl ((wr 1000).tdiv (wr v_h324))), none]) (st' := []) (w' := (SH, dt289)) rfl (c_ne (a := p2) (b := 2) (by first | exact bnd h_p2 (by decide) (by decide) | exact ⟨by fail, by fail⟩) ⟨by decide, by decide⟩) (fun c341 => ?_) (fun c341 => ?_)
                · skip
                  replace c341 := hid c341
                  refine go_ifq PM230 (k := 2) (p1 := 173) (p2 := 165) (L' := [some (.inr (.inr (some 79))), some (.inl p1), some (.inl p2), some (.inl l28_3), some (.inl l28_4), some (.inl ((wr (1000 * l28_4)).tdiv (wr l28_3))), some (.inl ((wr 1000).tdiv (wr v_h324))), none]) (st' := []) (w' := (SH, dt289)) rfl (c_ne (a := p2) (b := 3) (by first | exact bnd h_p2 (by decide) (by decide) | exact ⟨by fail, by fail⟩) ⟨by decide, by decide⟩) (fun c342 => ?_) (fun c342 => ?_)
                  · skip
                    replace c342 := hid c342
                    refine go_toq PM230 (k := 3) (pc' := 178) (L' := [some (.inr (.inr (some 79))), some (.inl p1), some (.inl p2), some (.inl l28_3), some (.inl l28_4), some (.inl ((wr (1000 * l28_4)).tdiv (wr l28_3))), some (.inl ((wr 1000).tdiv (wr v_h324))), none]) (st' := [.inl (((wr (1000 * l28_4)).tdiv (wr l28_3)) + ((wr 1000).tdiv (wr v_h324)))]) (w' := (SH, dt289)) rfl ?_
                    exact GO.le (j327 (((wr (1000 * l28_4)).tdiv (wr l28_3)) + ((wr 1000).tdiv (wr v_h324)))) ⟨.inl rfl, .inr ⟨rfl, trivial⟩, .inr ⟨rfl, trivial⟩, .inr ⟨rfl, trivial⟩, .inr ⟨rfl, trivial⟩, .inr ⟨rfl, trivial⟩, .inr ⟨rfl, trivial⟩, .inl rfl, trivial⟩
                  · skip
                    refine go_toq PM230 (k := 4) (pc' := 178) (L' := [some (.inr (.inr (some 79))), some (.inl p1), some (.inl p2), some (.inl l28_3), some (.inl l28_4), some (.inl ((wr (1000 * l28_4)).tdiv (wr l28_3))), some (.inl ((wr 1000).tdiv (wr v_h324))), none]) (st' := [.inl (((wr (1000 * l28_4)).tdiv (wr l28_3)) - ((wr 1000).tdiv (wr v_h324)))]) (w' := (SH, dt289)) rfl ?_
                    exact GO.le (j327 (((wr (1000 * l28_4)).tdiv (wr l28_3)) - ((wr 1000).tdiv (wr v_h324)))) ⟨.inl rfl, .inr ⟨rfl, trivial⟩, .inr ⟨rfl, trivial⟩, .inr ⟨rfl, trivial⟩, .inr ⟨rfl, trivial⟩, .inr ⟨rfl, trivial⟩, .inr ⟨rfl, trivial⟩, .inl rfl, trivial⟩
                · skip
                  refine go_toq PM230 (k := 2) (pc' := 178) (L' := [some (.inr (.inr (some 79))), some (.inl p1), some (.inl p2), some (.inl l28_3), some (.inl l28_4), some (.inl ((wr (1000 * l28_4)).tdiv (wr l28_3))), some (.inl ((wr 1000).tdiv (wr v_h324))), none]) (st' := [.inl ((wr (1000 * l28_4)).tdiv (wr l28_3))]) (w' := (SH, dt289)) rfl ?_
                  exact GO.le (j327 ((wr (1000 * l28_4)).tdiv (wr l28_3))) ⟨.inl rfl, .inr ⟨rfl, trivial⟩, .inr ⟨rfl, trivial⟩, .inr ⟨rfl, trivial⟩, .inr ⟨rfl, trivial⟩, .inr ⟨rfl, trivial⟩, .inr ⟨rfl, trivial⟩, .inl rfl, trivial⟩
              · skip
                refine go_retq PM230 (k := 1) (r := some (.inl (-1))) (w1 := (SH, dt289)) rfl ?_
                exact ⟨dt289, rfl, hI290, hF291, ⟨_, rfl, trivial, trivial⟩⟩
            · skip
              have j344 : ∀ (j344_s0 : Int), GO (am_XX L xs sio) (d + 7) 230 123 [some (.inr (.inr (some 79))), none, none, none, none, none, none, none] [.inl j344_s0] (SH, dt289) (fun r w2 => ∃ dt2 : Nat → Nat → Int, w2 = (SH, dt2) ∧ InvC dt2 ∧ Fr [88, 89, 90, 91, 92, 93, 94, 95, 96, 97, 98, 99, 100] dt dt2 ∧ ((∃ v : Int, r = some (.inl v) ∧ True ∧ True))) := by
                intro j344_s0
                refine go_retq PM230 (k := 0) (r := some (.inl j344_s0)) (w1 := (SH, dt289)) rfl ?_
                exact ⟨dt289, rfl, hI290, hF291, ⟨_, rfl, trivial, trivial⟩⟩
              refine go_ifq PM230 (k := 1) (p1 := 121) (p2 := 117) (L' := [some (.inr (.inr (some 79))), some (.inl p1), some (.inl p2), some (.inl l28_3), some (.inl l28_4), some (.inl l28_5), none, none]) (st' := []) (w' := (SH, dt289)) rfl (z_ne (a := p2) (by first | exact bnd h_p2 (by decide) (by decide) | exact bndd h_p2 c322 (by decide) (by decide) | exact ⟨by fail, by fail⟩)) (fun c345 => ?_) (fun c345 => ?_)
              · skip
                replace c345 := hid c345
                refine go_toq PM230 (k := 1) (pc' := 123) (L' := [some (.inr (.inr (some 79))), some (.inl p1), some (.inl p2), some (.inl l28_3), some (.inl l28_4), some (.inl l28_5), none, none]) (st' := [.inl l28_4]) (w' := (SH, dt289)) rfl ?_
                exact GO.le (j344 l28_4) ⟨.inl rfl, .inr ⟨rfl, trivial⟩, .inr ⟨rfl, trivial⟩, .inr ⟨rfl, trivial⟩, .inr ⟨rfl, trivial⟩, .inr ⟨rfl, trivial⟩, .inl rfl, .inl rfl, trivial⟩
              · skip
                refine go_toq PM230 (k := 2) (pc' := 123) (L' := [some (.inr (.inr (some 79))), some (.inl p1), some (.inl p2), some (.inl l28_3), some (.inl l28_4), some (.inl l28_5), none, none]) (st' := [.inl l28_3]) (w' := (SH, dt289)) rfl ?_
                exact GO.le (j344 l28_3) ⟨.inl rfl, .inr ⟨rfl, trivial⟩, .inr ⟨rfl, trivial⟩, .inr ⟨rfl, trivial⟩, .inr ⟨rfl, trivial⟩, .inr ⟨rfl, trivial⟩, .inl rfl, .inl rfl, trivial⟩
          · skip
            have j367 : ∀ (j367_a3 : Int) (j367_a4 : Int) (j367_d : Nat → Nat → Int) (j367_hI : InvC j367_d) (j367_hF : Fr [88, 89, 90, 91, 92, 93, 94, 95, 96, 97, 98, 99, 100] dt j367_d) (i368 : 0 ≤ j367_a3 ∧ j367_a3 ≤ 301) (i369 : l28_3 + 0 ≤ j367_a3 ∧ j367_a3 ≤ l28_3 + 1) (i370 : l28_4 + 0 ≤ j367_a4 ∧ j367_a4 ≤ l28_4 + 1), GO (am_XX L xs sio) (d + 7) 230 102 [some (.inr (.inr (some 79))), some (.inl p1), some (.inl p2), some (.inl j367_a3), some (.inl j367_a4), some (.inl l28_5), none, none] [] (SH, j367_d) (fun r w2 => ∃ dt2 : Nat → Nat → Int, w2 = (SH, dt2) ∧ InvC dt2 ∧ Fr [88, 89, 90, 91, 92, 93, 94, 95, 96, 97, 98, 99, 100] dt dt2 ∧ ((∃ v : Int, r = some (.inl v) ∧ True ∧ True))) := by
              intro j367_a3 j367_a4 j367_d j367_hI j367_hF i368 i369 i370
              refine go_toq PM230 (k := 2) (pc' := 28) (L' := [some (.inr (.inr (some 79))), some (.inl p1), some (.inl p2), some (.inl j367_a3), some (.inl j367_a4), some (.inl (l28_5 + 1)), none, none]) (st' := []) (w' := (SH, j367_d)) rfl ?_
              exact GO.le (ih_loop295 j367_a3 j367_a4 (l28_5 + 1) j367_d j367_hI j367_hF (by first | exact bnd i368 (by decide) (by decide) | omega) (by first | exact bndp i293 (by decide) (by decide) | exact bnde i293 c321 (by decide) (by decide) | omega) (by omega) (by omega)) ⟨.inl rfl, .inl rfl, .inl rfl, .inl rfl, .inl rfl, .inl rfl, .inl rfl, .inl rfl, trivial⟩
            refine go_ifq PM230 (k := 2) (p1 := 55) (p2 := 44) (L' := [some (.inr (.inr (some 79))), some (.inl p1), some (.inl p2), some (.inl l28_3), some (.inl l28_4), some (.inl l28_5), none, none]) (st' := []) (w' := (SH, dt289)) rfl (c_eq (a := p1) (b := (-1)) (by first | exact bnd h_p1 (by decide) (by decide) | exact ⟨by fail, by fail⟩) ⟨by decide, by decide⟩) (fun c371 => ?_) (fun c371 => ?_)
            · skip
              refine go_toq PM230 (k := 2) (pc' := 58) (L' := [some (.inr (.inr (some 79))), some (.inl p1), some (.inl p2), some (.inl l28_3), some (.inl l28_4), some (.inl l28_5), none, none]) (st' := [.inl l28_5, .inr (.inr (some 79))]) (w' := (SH, dt289)) rfl ?_
              refine go_callq PM230 PM229 (Q' := _) rfl rfl rfl rfl (sp_X6_isTelling L xs sio (d + 0) dt289 hI290 (MW_fr hM hF291 (by decide))  l28_5 (by first | exact bnd i293 (by decide) (by decide) | exact bndd i293 c321 (by decide) (by decide) | exact ⟨by omega, by omega⟩) ) ?_
              rintro _ _ ⟨dt373, rfl, hI374, hF375, h372⟩
              refine ⟨rfl, ?_⟩
              have hF376 : Fr [88, 89, 90, 91, 92, 93, 94, 95, 96, 97, 98, 99, 100] dt dt373 := Fr_tr hF291 hF375 (by decide)
              rcases h372 with ⟨rfl, h372⟩ | ⟨rfl, h372⟩
              · skip
                refine go_toq PM230 (k := 6) (pc' := 76) (L' := [some (.inr (.inr (some 79))), some (.inl p1), some (.inl p2), some (.inl (l28_3 + 1)), some (.inl l28_4), some (.inl l28_5), none, none]) (st' := [.inl 3, .inl l28_5, .inr (.inr (some 79)), .inl l28_4]) (w' := (SH, dt373)) rfl ?_
                refine go_callq PM230 PM209 (Q' := _) rfl rfl rfl rfl (sp_X6_ofAnswer_3 L xs sio (d + 6) dt373 hI374 (MW_fr hM hF376 (by decide))  l28_5 (by first | exact bnd i293 (by decide) (by decide) | exact bndd i293 c321 (by decide) (by decide) | exact ⟨by omega, by omega⟩) ) ?_
                rintro _ _ ⟨rfl, h377⟩
                refine ⟨rfl, ?_⟩
                rcases h377 with ⟨rfl, h377⟩
                refine go_toq PM230 (k := 4) (pc' := 84) (L' := [some (.inr (.inr (some 79))), some (.inl p1), some (.inl p2), some (.inl (l28_3 + 1)), some (.inl l28_4), some (.inl l28_5), none, none]) (st' := [.inl 1, .inl l28_5, .inr (.inr (some 79)), .inr (.inr (some 79)), .inl (dt373 80 (((5540 + (6 * l28_5)) + 3)).toNat), .inl l28_4]) (w' := (SH, dt373)) rfl ?_
                refine go_callq PM230 PM209 (Q' := _) rfl rfl rfl rfl (sp_X6_ofAnswer_1 L xs sio (d + 6) dt373 hI374 (MW_fr hM hF376 (by decide))  l28_5 (by first | exact bnd i293 (by decide) (by decide) | exact bndd i293 c321 (by decide) (by decide) | exact ⟨by omega, by omega⟩) ) ?_
                rintro _ _ ⟨rfl, h378⟩
                refine ⟨rfl, ?_⟩
                rcases h378 with ⟨rfl, h378⟩
                refine go_toq PM230 (k := 1) (pc' := 88) (L' := [some (.inr (.inr (some 79))), some (.inl p1), some (.inl p2), some (.inl (l28_3 + 1)), some (.inl l28_4), some (.inl l28_5), none, none]) (st' := [.inl 0, .inl (dt373 80 (((5540 + (6 * l28_5)) + 1)).toNat), .inr (.inr (some 79)), .inl (dt373 80 (((5540 + (6 * l28_5)) + 3)).toNat), .inl l28_4]) (w' := (SH, dt373)) rfl ?_
                refine go_callq PM230 PM194 (Q' := _) rfl rfl rfl rfl (sp_X6_saysNow L xs sio (d + 5) dt373 hI374 (MW_fr hM hF376 (by decide))  (dt373 80 (((5540 + (6 * l28_5)) + 1)).toNat) ⟨by omega, by omega⟩ 0 ⟨by decide, by decide⟩ ) ?_
                rintro _ _ ⟨rfl, h379⟩
                refine ⟨rfl, ?_⟩
                rcases h379 with ⟨v_h379, rfl, h379r, h379⟩
                refine go_ifq PM230 (k := 0) (p1 := 98) (p2 := 94) (L' := [some (.inr (.inr (some 79))), some (.inl p1), some (.inl p2), some (.inl (l28_3 + 1)), some (.inl l28_4), some (.inl l28_5), none, none]) (st' := [.inl l28_4]) (w' := (SH, dt373)) rfl (c_ne (a := dt373 80 (((5540 + (6 * l28_5)) + 3)).toNat) (b := v_h379) ⟨by omega, by omega⟩ (by first | exact bnd h379r (by decide) (by decide) | exact ⟨by fail, by fail⟩)) (fun c381 => ?_) (fun c381 => ?_)
                · skip
                  replace c381 := hid c381
                  refine go_toq PM230 (k := 3) (pc' := 102) (L' := [some (.inr (.inr (some 79))), some (.inl p1), some (.inl p2), some (.inl (l28_3 + 1)), some (.inl (l28_4 + 0)), some (.inl l28_5), none, none]) (st' := []) (w' := (SH, dt373)) rfl ?_
                  exact GO.le (j367 (l28_3 + 1) (l28_4 + 0) dt373 hI374 hF376 (by first | exact bndp i292 (by decide) (by decide) | fail) (by omega) (by omega)) ⟨.inl rfl, .inl rfl, .inl rfl, .inl rfl, .inl rfl, .inl rfl, .inl rfl, .inl rfl, trivial⟩
                · skip
                  refine go_toq PM230 (k := 4) (pc' := 102) (L' := [some (.inr (.inr (some 79))), some (.inl p1), some (.inl p2), some (.inl (l28_3 + 1)), some (.inl (l28_4 + 1)), some (.inl l28_5), none, none]) (st' := []) (w' := (SH, dt373)) rfl ?_
                  exact GO.le (j367 (l28_3 + 1) (l28_4 + 1) dt373 hI374 hF376 (by first | exact bndp i292 (by decide) (by decide) | fail) (by omega) (by omega)) ⟨.inl rfl, .inl rfl, .inl rfl, .inl rfl, .inl rfl, .inl rfl, .inl rfl, .inl rfl, trivial⟩
              · skip
                refine go_toq PM230 (k := 2) (pc' := 102) (L' := [some (.inr (.inr (some 79))), some (.inl p1), some (.inl p2), some (.inl l28_3), some (.inl l28_4), some (.inl l28_5), none, none]) (st' := []) (w' := (SH, dt373)) rfl ?_
                exact GO.le (j367 l28_3 l28_4 dt373 hI374 hF376 (by first | exact bnd i292 (by decide) (by decide) | fail) (by omega) (by omega)) ⟨.inl rfl, .inl rfl, .inl rfl, .inl rfl, .inl rfl, .inl rfl, .inl rfl, .inl rfl, trivial⟩
            · skip
              replace c371 := hid c371
              refine go_toq PM230 (k := 3) (pc' := 48) (L' := [some (.inr (.inr (some 79))), some (.inl p1), some (.inl p2), some (.inl l28_3), some (.inl l28_4), some (.inl l28_5), none, none]) (st' := [.inl 2, .inl l28_5, .inr (.inr (some 79))]) (w' := (SH, dt289)) rfl ?_
              refine go_callq PM230 PM209 (Q' := _) rfl rfl rfl rfl (sp_X6_ofAnswer_2 L xs sio (d + 6) dt289 hI290 (MW_fr hM hF291 (by decide))  l28_5 (by first | exact bnd i293 (by decide) (by decide) | exact bndd i293 c321 (by decide) (by decide) | exact ⟨by omega, by omega⟩) ) ?_
              rintro _ _ ⟨rfl, h382⟩
              refine ⟨rfl, ?_⟩
              rcases h382 with ⟨rfl, h382⟩
              refine go_ifq PM230 (k := 1) (p1 := 102) (p2 := 55) (L' := [some (.inr (.inr (some 79))), some (.inl p1), some (.inl p2), some (.inl l28_3), some (.inl l28_4), some (.inl l28_5), none, none]) (st' := []) (w' := (SH, dt289)) rfl (c_ne (a := dt289 80 (((5540 + (6 * l28_5)) + 2)).toNat) (b := p1) ⟨by omega, by omega⟩ (by first | exact bnd h_p1 (by decide) (by decide) | exact ⟨by fail, by fail⟩)) (fun c383 => ?_) (fun c383 => ?_)
              · skip
                replace c383 := hid c383
                exact GO.le (j367 l28_3 l28_4 dt289 hI290 hF291 (by first | exact bnd i292 (by decide) (by decide) | fail) (by omega) (by omega)) ⟨.inl rfl, .inl rfl, .inl rfl, .inl rfl, .inl rfl, .inl rfl, .inl rfl, .inl rfl, trivial⟩
              · skip
                refine go_toq PM230 (k := 2) (pc' := 58) (L' := [some (.inr (.inr (some 79))), some (.inl p1), some (.inl p2), some (.inl l28_3), some (.inl l28_4), some (.inl l28_5), none, none]) (st' := [.inl l28_5, .inr (.inr (some 79))]) (w' := (SH, dt289)) rfl ?_
                refine go_callq PM230 PM229 (Q' := _) rfl rfl rfl rfl (sp_X6_isTelling L xs sio (d + 0) dt289 hI290 (MW_fr hM hF291 (by decide))  l28_5 (by first | exact bnd i293 (by decide) (by decide) | exact bndd i293 c321 (by decide) (by decide) | exact ⟨by omega, by omega⟩) ) ?_
                rintro _ _ ⟨dt385, rfl, hI386, hF387, h384⟩
                refine ⟨rfl, ?_⟩
                have hF388 : Fr [88, 89, 90, 91, 92, 93, 94, 95, 96, 97, 98, 99, 100] dt dt385 := Fr_tr hF291 hF387 (by decide)
                rcases h384 with ⟨rfl, h384⟩ | ⟨rfl, h384⟩
                · skip
                  refine go_toq PM230 (k := 6) (pc' := 76) (L' := [some (.inr (.inr (some 79))), some (.inl p1), some (.inl p2), some (.inl (l28_3 + 1)), some (.inl l28_4), some (.inl l28_5), none, none]) (st' := [.inl 3, .inl l28_5, .inr (.inr (some 79)), .inl l28_4]) (w' := (SH, dt385)) rfl ?_
                  refine go_callq PM230 PM209 (Q' := _) rfl rfl rfl rfl (sp_X6_ofAnswer_3 L xs sio (d + 6) dt385 hI386 (MW_fr hM hF388 (by decide))  l28_5 (by first | exact bnd i293 (by decide) (by decide) | exact bndd i293 c321 (by decide) (by decide) | exact ⟨by omega, by omega⟩) ) ?_
                  rintro _ _ ⟨rfl, h389⟩
                  refine ⟨rfl, ?_⟩
                  rcases h389 with ⟨rfl, h389⟩
                  refine go_toq PM230 (k := 4) (pc' := 84) (L' := [some (.inr (.inr (some 79))), some (.inl p1), some (.inl p2), some (.inl (l28_3 + 1)), some (.inl l28_4), some (.inl l28_5), none, none]) (st' := [.inl 1, .inl l28_5, .inr (.inr (some 79)), .inr (.inr (some 79)), .inl (dt385 80 (((5540 + (6 * l28_5)) + 3)).toNat), .inl l28_4]) (w' := (SH, dt385)) rfl ?_
                  refine go_callq PM230 PM209 (Q' := _) rfl rfl rfl rfl (sp_X6_ofAnswer_1 L xs sio (d + 6) dt385 hI386 (MW_fr hM hF388 (by decide))  l28_5 (by first | exact bnd i293 (by decide) (by decide) | exact bndd i293 c321 (by decide) (by decide) | exact ⟨by omega, by omega⟩) ) ?_
                  rintro _ _ ⟨rfl, h390⟩
                  refine ⟨rfl, ?_⟩
                  rcases h390 with ⟨rfl, h390⟩
                  refine go_toq PM230 (k := 1) (pc' := 88) (L' := [some (.inr (.inr (some 79))), some (.inl p1), some (.inl p2), some (.inl (l28_3 + 1)), some (.inl l28_4), some (.inl l28_5), none, none]) (st' := [.inl 0, .inl (dt385 80 (((5540 + (6 * l28_5)) + 1)).toNat), .inr (.inr (some 79)), .inl (dt385 80 (((5540 + (6 * l28_5)) + 3)).toNat), .inl l28_4]) (w' := (SH, dt385)) rfl ?_
                  refine go_callq PM230 PM194 (Q' := _) rfl rfl rfl rfl (sp_X6_saysNow L xs sio (d + 5) dt385 hI386 (MW_fr hM hF388 (by decide))  (dt385 80 (((5540 + (6 * l28_5)) + 1)).toNat) ⟨by omega, by omega⟩ 0 ⟨by decide, by decide⟩ ) ?_
                  rintro _ _ ⟨rfl, h391⟩
                  refine ⟨rfl, ?_⟩
                  rcases h391 with ⟨v_h391, rfl, h391r, h391⟩
                  refine go_ifq PM230 (k := 0) (p1 := 98) (p2 := 94) (L' := [some (.inr (.inr (some 79))), some (.inl p1), some (.inl p2), some (.inl (l28_3 + 1)), some (.inl l28_4), some (.inl l28_5), none, none]) (st' := [.inl l28_4]) (w' := (SH, dt385)) rfl (c_ne (a := dt385 80 (((5540 + (6 * l28_5)) + 3)).toNat) (b := v_h391) ⟨by omega, by omega⟩ (by first | exact bnd h391r (by decide) (by decide) | exact ⟨by fail, by fail⟩)) (fun c393 => ?_) (fun c393 => ?_)
                  · skip
                    replace c393 := hid c393
                    refine go_toq PM230 (k := 3) (pc' := 102) (L' := [some (.inr (.inr (some 79))), some (.inl p1), some (.inl p2), some (.inl (l28_3 + 1)), some (.inl (l28_4 + 0)), some (.inl l28_5), none, none]) (st' := []) (w' := (SH, dt385)) rfl ?_
                    exact GO.le (j367 (l28_3 + 1) (l28_4 + 0) dt385 hI386 hF388 (by first | exact bndp i292 (by decide) (by decide) | fail) (by omega) (by omega)) ⟨.inl rfl, .inl rfl, .inl rfl, .inl rfl, .inl rfl, .inl rfl, .inl rfl, .inl rfl, trivial⟩
                  · skip
                    refine go_toq PM230 (k := 4) (pc' := 102) (L' := [some (.inr (.inr (some 79))), some (.inl p1), some (.inl p2), some (.inl (l28_3 + 1)), some (.inl (l28_4 + 1)), some (.inl l28_5), none, none]) (st' := []) (w' := (SH, dt385)) rfl ?_
                    exact GO.le (j367 (l28_3 + 1) (l28_4 + 1) dt385 hI386 hF388 (by first | exact bndp i292 (by decide) (by decide) | fail) (by omega) (by omega)) ⟨.inl rfl, .inl rfl, .inl rfl, .inl rfl, .inl rfl, .inl rfl, .inl rfl, .inl rfl, trivial⟩
                · skip
                  refine go_toq PM230 (k := 2) (pc' := 102) (L' := [some (.inr (.inr (some 79))), some (.inl p1), some (.inl p2), some (.inl l28_3), some (.inl l28_4), some (.inl l28_5), none, none]) (st' := []) (w' := (SH, dt385)) rfl ?_
                  exact GO.le (j367 l28_3 l28_4 dt385 hI386 hF388 (by first | exact bnd i292 (by decide) (by decide) | fail) (by omega) (by omega)) ⟨.inl rfl, .inl rfl, .inl rfl, .inl rfl, .inl rfl, .inl rfl, .inl rfl, .inl rfl, trivial⟩
      exact GO.le (loop295 _ 0 0 0 dt hI hF ⟨by decide, by decide⟩ ⟨by decide, by decide⟩ (by omega) (Nat.lt_succ_self _)) ⟨.inl rfl, .inl rfl, .inl rfl, .inl rfl, .inl rfl, .inl rfl, .inl rfl, .inl rfl, trivial⟩
    · skip
      refine go_retq PM230 (k := 2) (r := some (.inl (-1))) (w1 := (SH, dt)) rfl ?_
      exact ⟨dt, rfl, hI, hF, ⟨_, rfl, trivial, trivial⟩⟩
  · skip
    refine go_retq PM230 (k := 2) (r := some (.inl (-1))) (w1 := (SH, dt)) rfl ?_
    exact ⟨dt, rfl, hI, hF, ⟨_, rfl, trivial, trivial⟩⟩
set_option maxRecDepth 20000 in
theorem sp_X6_beside (L : Nat) (xs : Nat → Int32) (sio : Option Nat) (d : Nat) (dt : Nat → Nat → Int) (hI : InvC dt) (hM : MW (dt 80))  (p1 : Int) (h_p1 : (-2147483648) ≤ p1 ∧ p1 ≤ 2147483647)  : GO (am_XX L xs sio) (d + 7) 232 0 [some (.inr (.inr (some 79))), some (.inl p1), none, none, none] [] (SH, dt) (fun r w2 => ∃ dt2 : Nat → Nat → Int, w2 = (SH, dt2) ∧ InvC dt2 ∧ Fr [88, 89, 90, 91, 92, 93, 94, 95, 96, 97, 98, 99, 100, 103] dt dt2 ∧ ((∃ v : Int, r = some (.inl v) ∧ ((-2147483648) ≤ v ∧ v ≤ 2147483647) ∧ True))) := by
  have hF : Fr [88, 89, 90, 91, 92, 93, 94, 95, 96, 97, 98, 99, 100, 103] dt dt := Fr_refl
  refine go_toq PM232 (k := 3) (pc' := 3) (L' := [some (.inr (.inr (some 79))), some (.inl p1), none, none, none]) (st' := [.inl 4, .inl 0, .inl p1]) (w' := (SH, dt)) rfl ?_
  refine go_callq PM232 PM146 (Q' := _) rfl rfl rfl rfl (sp_X6_isIn L xs sio (d + 6) dt hI  p1 (by first | exact h_p1 | exact bnd h_p1 (by decide) (by decide) | exact ⟨by fail, by fail⟩) 0 ⟨by decide, by decide⟩ 4 ⟨by decide, by decide⟩ ) ?_
  rintro _ _ ⟨rfl, h1⟩
  refine ⟨rfl, ?_⟩
  rcases h1 with ⟨rfl, h1⟩ | ⟨rfl, h1⟩
  · skip
    refine go_toq PM232 (k := 3) (pc' := 13) (L' := [some (.inr (.inr (some 79))), some (.inl p1), some (.inl 0), none, none]) (st' := []) (w' := (SH, dt)) rfl ?_
    have loop26 : ∀ (k_ : Nat) (l13_2 : Int) (dt22 : Nat → Nat → Int) (hI23 : InvC dt22) (hF24 : Fr [88, 89, 90, 91, 92, 93, 94, 95, 96, 97, 98, 99, 100, 103] dt dt22) (i25 : 0 ≤ l13_2 ∧ l13_2 ≤ 4), (5 - l13_2).toNat < k_ → GO (am_XX L xs sio) (d + 7) 232 13 [some (.inr (.inr (some 79))), some (.inl p1), some (.inl l13_2), none, none] [] (SH, dt22) (fun r w2 => ∃ dt2 : Nat → Nat → Int, w2 = (SH, dt2) ∧ InvC dt2 ∧ Fr [88, 89, 90, 91, 92, 93, 94, 95, 96, 97, 98, 99, 100, 103] dt dt2 ∧ ((∃ v : Int, r = some (.inl v) ∧ ((-2147483648) ≤ v ∧ v ≤ 2147483647) ∧ True))) := by
      intro k_
      induction k_ with
      | zero => intro l13_2 dt22 hI23 hF24 i25 hm; exact absurd hm (Nat.not_lt_zero _)
      | succ k_ ih_loop26 =>
        intro l13_2 dt22 hI23 hF24 i25 hm
        refine go_ifq PM232 (k := 2) (p1 := 31) (p2 := 18) (L' := [some (.inr (.inr (some 79))), some (.inl p1), some (.inl l13_2), none, none]) (st' := []) (w' := (SH, dt22)) rfl (c_ge (a := l13_2) (b := 4) (by first | exact bnd i25 (by decide) (by decide) | exact ⟨by fail, by fail⟩) ⟨by decide, by decide⟩) (fun c30 => ?_) (fun c30 => ?_)
        · skip
          refine go_toq PM232 (k := 2) (pc' := 33) (L' := [some (.inr (.inr (some 79))), some (.inl p1), some (.inl 0), none, none]) (st' := []) (w' := (SH, dt22)) rfl ?_
          have loop323 : ∀ (k_ : Nat) (l33_2 : Int) (dt319 : Nat → Nat → Int) (hI320 : InvC dt319) (hF321 : Fr [88, 89, 90, 91, 92, 93, 94, 95, 96, 97, 98, 99, 100, 103] dt dt319) (i322 : 0 ≤ l33_2 ∧ l33_2 ≤ 40), (41 - l33_2).toNat < k_ → GO (am_XX L xs sio) (d + 7) 232 33 [some (.inr (.inr (some 79))), some (.inl p1), some (.inl l33_2), none, none] [] (SH, dt319) (fun r w2 => ∃ dt2 : Nat → Nat → Int, w2 = (SH, dt2) ∧ InvC dt2 ∧ Fr [88, 89, 90, 91, 92, 93, 94, 95, 96, 97, 98, 99, 100, 103] dt dt2 ∧ ((∃ v : Int, r = some (.inl v) ∧ ((-2147483648) ≤ v ∧ v ≤ 2147483647) ∧ True))) := by
            intro k_
            induction k_ with
            | zero => intro l33_2 dt319 hI320 hF321 i322 hm; exact absurd hm (Nat.not_lt_zero _)
            | succ k_ ih_loop323 =>
              intro l33_2 dt319 hI320 hF321 i322 hm
              refine go_toq PM232 (k := 4) (pc' := 39) (L' := [some (.inr (.inr (some 79))), some (.inl p1), some (.inl l33_2), none, none]) (st' := [.inl 2, .inr (.inr (some 80)), .inl l33_2]) (w' := (SH, dt319)) rfl ?_
              have r324 : (-2147483648) ≤ dt 80 2 ∧ dt 80 2 ≤ 2147483647 := InvC_get hI 80 2 rfl rfl
              have r325 := MW_n hM
              refine go_smpq PM232 (L' := [some (.inr (.inr (some 79))), some (.inl p1), some (.inl l33_2), none, none]) (st' := [.inl (dt 80 2), .inl l33_2]) (w' := (SH, dt319)) rfl rfl (s_ev (s_iald (n := 7460) (f := dt319 80) rfl ⟨by decide, by decide⟩) (hF321 80 (by decide) _)) ?_
              refine go_ifq PM232 (k := 0) (p1 := 117) (p2 := 43) (L' := [some (.inr (.inr (some 79))), some (.inl p1), some (.inl l33_2), none, none]) (st' := []) (w' := (SH, dt319)) rfl (c_ge (a := l33_2) (b := dt 80 2) (by first | exact bnd i322 (by decide) (by decide) | exact ⟨by fail, by fail⟩) (by first | exact bnd r324 (by decide) (by decide) | exact ⟨by fail, by fail⟩)) (fun c359 => ?_) (fun c359 => ?_)
              · skip
                refine go_ifq PM232 (k := 2) (p1 := 129) (p2 := 122) (L' := [some (.inr (.inr (some 79))), some (.inl p1), some (.inl l33_2), none, none]) (st' := []) (w' := (SH, dt319)) rfl (c_ge (a := p1) (b := 4) (by first | exact bnd h_p1 (by decide) (by decide) | exact ⟨by fail, by fail⟩) ⟨by decide, by decide⟩) (fun c360 => ?_) (fun c360 => ?_)
                · skip
                  refine go_toq PM232 (k := 3) (pc' := 134) (L' := [some (.inr (.inr (some 79))), some (.inl p1), some (.inl l33_2), none, none]) (st' := [.inl 0, .inr (.inr (some 103))]) (w' := (SH, dt319)) rfl ?_
                  have r361 : (-2147483648) ≤ dt319 103 0 ∧ dt319 103 0 ≤ 2147483647 := InvC_get hI320 103 0 rfl rfl
                  refine go_smpq PM232 (L' := [some (.inr (.inr (some 79))), some (.inl p1), some (.inl l33_2), none, none]) (st' := [.inl (dt319 103 0)]) (w' := (SH, dt319)) rfl rfl (s_iald (n := 4) (f := dt319 103) rfl ⟨by decide, by decide⟩) ?_
                  refine go_toq PM232 (k := 3) (pc' := 140) (L' := [some (.inr (.inr (some 79))), some (.inl p1), some (.inl l33_2), none, none]) (st' := [.inl 1, .inr (.inr (some 103)), .inl (dt319 103 0)]) (w' := (SH, dt319)) rfl ?_
                  have r362 : (-2147483648) ≤ dt319 103 1 ∧ dt319 103 1 ≤ 2147483647 := InvC_get hI320 103 1 rfl rfl
                  refine go_smpq PM232 (L' := [some (.inr (.inr (some 79))), some (.inl p1), some (.inl l33_2), none, none]) (st' := [.inl (dt319 103 1), .inl (dt319 103 0)]) (w' := (SH, dt319)) rfl rfl (s_iald (n := 4) (f := dt319 103) rfl ⟨by decide, by decide⟩) ?_
                  refine go_toq PM232 (k := 4) (pc' := 147) (L' := [some (.inr (.inr (some 79))), some (.inl p1), some (.inl l33_2), none, none]) (st' := [.inl 2, .inr (.inr (some 103)), .inl ((dt319 103 0) + (dt319 103 1))]) (w' := (SH, dt319)) rfl ?_
                  have r363 : (-2147483648) ≤ dt319 103 2 ∧ dt319 103 2 ≤ 2147483647 := InvC_get hI320 103 2 rfl rfl
                  refine go_smpq PM232 (L' := [some (.inr (.inr (some 79))), some (.inl p1), some (.inl l33_2), none, none]) (st' := [.inl (dt319 103 2), .inl ((dt319 103 0) + (dt319 103 1))]) (w' := (SH, dt319)) rfl rfl (s_iald (n := 4) (f := dt319 103) rfl ⟨by decide, by decide⟩) ?_
                  refine go_toq PM232 (k := 4) (pc' := 154) (L' := [some (.inr (.inr (some 79))), some (.inl p1), some (.inl l33_2), none, none]) (st' := [.inl 3, .inr (.inr (some 103)), .inl (((dt319 103 0) + (dt319 103 1)) + (dt319 103 2))]) (w' := (SH, dt319)) rfl ?_
                  have r364 : (-2147483648) ≤ dt319 103 3 ∧ dt319 103 3 ≤ 2147483647 := InvC_get hI320 103 3 rfl rfl
                  refine go_smpq PM232 (L' := [some (.inr (.inr (some 79))), some (.inl p1), some (.inl l33_2), none, none]) (st' := [.inl (dt319 103 3), .inl (((dt319 103 0) + (dt319 103 1)) + (dt319 103 2))]) (w' := (SH, dt319)) rfl rfl (s_iald (n := 4) (f := dt319 103) rfl ⟨by decide, by decide⟩) ?_
                  have j370 :  GO (am_XX L xs sio) (d + 7) 232 185 [some (.inr (.inr (some 79))), none, none, none, none] [.inl 0] (SH, dt319) (fun r w2 => ∃ dt2 : Nat → Nat → Int, w2 = (SH, dt2) ∧ InvC dt2 ∧ Fr [88, 89, 90, 91, 92, 93, 94, 95, 96, 97, 98, 99, 100, 103] dt dt2 ∧ ((∃ v : Int, r = some (.inl v) ∧ ((-2147483648) ≤ v ∧ v ≤ 2147483647) ∧ True))) := by
                    skip
                    refine go_retq PM232 (k := 0) (r := some (.inl 0)) (w1 := (SH, dt319)) rfl ?_
                    exact ⟨dt319, rfl, hI320, hF321, ⟨_, rfl, ⟨by decide, by decide⟩, trivial⟩⟩
                  have r372 := wr_RR ((((dt319 103 0) + (dt319 103 1)) + (dt319 103 2)) + (dt319 103 3))
                  refine go_ifq PM232 (k := 3) (p1 := 184) (p2 := 161) (L' := [some (.inr (.inr (some 79))), some (.inl p1), some (.inl ((((dt319 103 0) + (dt319 103 1)) + (dt319 103 2)) + (dt319 103 3))), none, none]) (st' := []) (w' := (SH, dt319)) rfl (u_le (a := wr ((((dt319 103 0) + (dt319 103 1)) + (dt319 103 2)) + (dt319 103 3))) (b := 0)) (fun c371 => ?_) (fun c371 => ?_)
                  · skip
                    refine go_toq PM232 (k := 1) (pc' := 185) (L' := [some (.inr (.inr (some 79))), some (.inl p1), some (.inl ((((dt319 103 0) + (dt319 103 1)) + (dt319 103 2)) + (dt319 103 3))), none, none]) (st' := [.inl 0]) (w' := (SH, dt319)) rfl ?_
                    exact GO.le (j370 ) ⟨.inl rfl, .inr ⟨rfl, trivial⟩, .inr ⟨rfl, trivial⟩, .inl rfl, .inl rfl, trivial⟩
                  · skip
                    refine go_toq PM232 (k := 4) (pc' := 167) (L' := [some (.inr (.inr (some 79))), some (.inl p1), some (.inl ((((dt319 103 0) + (dt319 103 1)) + (dt319 103 2)) + (dt319 103 3))), none, none]) (st' := [.inl 1, .inr (.inr (some 103)), .inl 4]) (w' := (SH, dt319)) rfl ?_
                    refine go_smpq PM232 (L' := [some (.inr (.inr (some 79))), some (.inl p1), some (.inl ((((dt319 103 0) + (dt319 103 1)) + (dt319 103 2)) + (dt319 103 3))), none, none]) (st' := [.inl (dt319 103 1), .inl 4]) (w' := (SH, dt319)) rfl rfl (s_iald (n := 4) (f := dt319 103) rfl ⟨by decide, by decide⟩) ?_
                    refine go_toq PM232 (k := 3) (pc' := 173) (L' := [some (.inr (.inr (some 79))), some (.inl p1), some (.inl ((((dt319 103 0) + (dt319 103 1)) + (dt319 103 2)) + (dt319 103 3))), none, none]) (st' := [.inl 2, .inr (.inr (some 103)), .inl (dt319 103 1), .inl 4]) (w' := (SH, dt319)) rfl ?_
                    refine go_smpq PM232 (L' := [some (.inr (.inr (some 79))), some (.inl p1), some (.inl ((((dt319 103 0) + (dt319 103 1)) + (dt319 103 2)) + (dt319 103 3))), none, none]) (st' := [.inl (dt319 103 2), .inl (dt319 103 1), .inl 4]) (w' := (SH, dt319)) rfl rfl (s_iald (n := 4) (f := dt319 103) rfl ⟨by decide, by decide⟩) ?_
                    have r374 := wr_RR (4 * ((dt319 103 1) + (dt319 103 2)))
                    have r375 := wr_RR ((((dt319 103 0) + (dt319 103 1)) + (dt319 103 2)) + (dt319 103 3))
                    refine go_ifq PM232 (k := 3) (p1 := 184) (p2 := 180) (L' := [some (.inr (.inr (some 79))), some (.inl p1), some (.inl ((((dt319 103 0) + (dt319 103 1)) + (dt319 103 2)) + (dt319 103 3))), none, none]) (st' := []) (w' := (SH, dt319)) rfl (u_gt (a := wr (4 * ((dt319 103 1) + (dt319 103 2)))) (b := wr ((((dt319 103 0) + (dt319 103 1)) + (dt319 103 2)) + (dt319 103 3)))) (fun c373 => ?_) (fun c373 => ?_)
                    · skip
                      refine go_toq PM232 (k := 1) (pc' := 185) (L' := [some (.inr (.inr (some 79))), some (.inl p1), some (.inl ((((dt319 103 0) + (dt319 103 1)) + (dt319 103 2)) + (dt319 103 3))), none, none]) (st' := [.inl 0]) (w' := (SH, dt319)) rfl ?_
                      exact GO.le (j370 ) ⟨.inl rfl, .inr ⟨rfl, trivial⟩, .inr ⟨rfl, trivial⟩, .inl rfl, .inl rfl, trivial⟩
                    · skip
                      refine go_retq PM232 (k := 2) (r := some (.inl 1)) (w1 := (SH, dt319)) rfl ?_
                      exact ⟨dt319, rfl, hI320, hF321, ⟨_, rfl, ⟨by decide, by decide⟩, trivial⟩⟩
                · skip
                  refine go_toq PM232 (k := 3) (pc' := 127) (L' := [some (.inr (.inr (some 79))), some (.inl p1), some (.inl l33_2), none, none]) (st' := [.inl p1, .inr (.inr (some 103))]) (w' := (SH, dt319)) rfl ?_
                  have r376 : (-2147483648) ≤ dt319 103 (p1).toNat ∧ dt319 103 (p1).toNat ≤ 2147483647 := InvC_get hI320 103 (p1).toNat rfl rfl
                  refine go_smpq PM232 (L' := [some (.inr (.inr (some 79))), some (.inl p1), some (.inl l33_2), none, none]) (st' := [.inl (dt319 103 (p1).toNat)]) (w' := (SH, dt319)) rfl rfl (s_iald (n := 4) (f := dt319 103) rfl (by first | exact bndc h_p1 c360 (by decide) (by decide) | exact bndx h_p1 (by decide) (by decide) | exact ⟨by omega, by omega⟩)) ?_
                  refine go_retq PM232 (k := 0) (r := some (.inl (dt319 103 (p1).toNat))) (w1 := (SH, dt319)) rfl ?_
                  exact ⟨dt319, rfl, hI320, hF321, ⟨_, rfl, (by first | exact bnd r376 (by decide) (by decide) | exact ⟨by fail, by fail⟩), trivial⟩⟩
              · skip
                refine go_toq PM232 (k := 3) (pc' := 46) (L' := [some (.inr (.inr (some 79))), some (.inl p1), some (.inl l33_2), none, none]) (st' := [.inl 0, .inl l33_2, .inr (.inr (some 79))]) (w' := (SH, dt319)) rfl ?_
                refine go_callq PM232 PM231 (Q' := _) rfl rfl rfl rfl (sp_X6_passes L xs sio (d + 0) dt319 hI320 (MW_fr hM hF321 (by decide))  l33_2 (by first | exact bnd i322 (by decide) (by decide) | exact bndd i322 c359 (by decide) (by decide) | exact ⟨by omega, by omega⟩) 0 ⟨by decide, by decide⟩ ) ?_
                rintro _ _ ⟨dt378, rfl, hI379, hF380, h377⟩
                refine ⟨rfl, ?_⟩
                have hF381 : Fr [88, 89, 90, 91, 92, 93, 94, 95, 96, 97, 98, 99, 100, 103] dt dt378 := Fr_tr hF321 hF380 (by decide)
                rcases h377 with ⟨v_h377, rfl, h377r, h377⟩
                refine go_toq PM232 (k := 4) (pc' := 53) (L' := [some (.inr (.inr (some 79))), some (.inl p1), some (.inl l33_2), some (.inl v_h377), none]) (st' := [.inl 1, .inl l33_2, .inr (.inr (some 79))]) (w' := (SH, dt378)) rfl ?_
                refine go_callq PM232 PM231 (Q' := _) rfl rfl rfl rfl (sp_X6_passes L xs sio (d + 0) dt378 hI379 (MW_fr hM hF381 (by decide))  l33_2 (by first | exact bnd i322 (by decide) (by decide) | exact bndd i322 c359 (by decide) (by decide) | exact ⟨by omega, by omega⟩) 1 ⟨by decide, by decide⟩ ) ?_
                rintro _ _ ⟨dt383, rfl, hI384, hF385, h382⟩
                refine ⟨rfl, ?_⟩
                have hF386 : Fr [88, 89, 90, 91, 92, 93, 94, 95, 96, 97, 98, 99, 100, 103] dt dt383 := Fr_tr hF381 hF385 (by decide)
                rcases h382 with ⟨v_h382, rfl, h382r, h382⟩
                have j408 : ∀ (j408_d : Nat → Nat → Int) (j408_hI : InvC j408_d) (j408_hF : Fr [88, 89, 90, 91, 92, 93, 94, 95, 96, 97, 98, 99, 100, 103] dt j408_d), GO (am_XX L xs sio) (d + 7) 232 111 [some (.inr (.inr (some 79))), some (.inl p1), some (.inl l33_2), none, none] [] (SH, j408_d) (fun r w2 => ∃ dt2 : Nat → Nat → Int, w2 = (SH, dt2) ∧ InvC dt2 ∧ Fr [88, 89, 90, 91, 92, 93, 94, 95, 96, 97, 98, 99, 100, 103] dt dt2 ∧ ((∃ v : Int, r = some (.inl v) ∧ ((-2147483648) ≤ v ∧ v ≤ 2147483647) ∧ True))) := by
                  intro j408_d j408_hI j408_hF
                  refine go_toq PM232 (k := 2) (pc' := 33) (L' := [some (.inr (.inr (some 79))), some (.inl p1), some (.inl (l33_2 + 1)), none, none]) (st' := []) (w' := (SH, j408_d)) rfl ?_
                  exact GO.le (ih_loop323 (l33_2 + 1) j408_d j408_hI j408_hF (by first | exact bndp i322 (by decide) (by decide) | exact bnde i322 c359 (by decide) (by decide) | omega) (by omega)) ⟨.inl rfl, .inl rfl, .inl rfl, .inl rfl, .inl rfl, trivial⟩
                refine go_ifq PM232 (k := 3) (p1 := 111) (p2 := 63) (L' := [some (.inr (.inr (some 79))), some (.inl p1), some (.inl l33_2), some (.inl v_h377), some (.inl v_h382)]) (st' := []) (w' := (SH, dt383)) rfl (c_eq (a := v_h377) (b := (-1)) (by first | exact bnd h377r (by decide) (by decide) | exact ⟨by fail, by fail⟩) ⟨by decide, by decide⟩) (fun c409 => ?_) (fun c409 => ?_)
                · skip
                  exact GO.le (j408 dt383 hI384 hF386) ⟨.inl rfl, .inl rfl, .inl rfl, .inr ⟨rfl, trivial⟩, .inr ⟨rfl, trivial⟩, trivial⟩
                · skip
                  replace c409 := hid c409
                  refine go_ifq PM232 (k := 2) (p1 := 72) (p2 := 69) (L' := [some (.inr (.inr (some 79))), some (.inl p1), some (.inl l33_2), some (.inl v_h377), some (.inl v_h382)]) (st' := []) (w' := (SH, dt383)) rfl (c_ne (a := v_h382) (b := (-1)) (by first | exact bnd h382r (by decide) (by decide) | exact ⟨by fail, by fail⟩) ⟨by decide, by decide⟩) (fun c410 => ?_) (fun c410 => ?_)
                  · skip
                    replace c410 := hid c410
                    refine go_ifq PM232 (k := 4) (p1 := 95) (p2 := 81) (L' := [some (.inr (.inr (some 79))), some (.inl p1), some (.inl l33_2), some (.inl v_h377), some (.inl v_h382)]) (st' := [.inr (.inr (some 103))]) (w' := (SH, dt383)) rfl (c_ne (a := v_h377) (b := 1) (by first | exact bnd h377r (by decide) (by decide) | exact ⟨by fail, by fail⟩) ⟨by decide, by decide⟩) (fun c414 => ?_) (fun c414 => ?_)
                    · skip
                      replace c414 := hid c414
                      refine go_ifq PM232 (k := 2) (p1 := 105) (p2 := 101) (L' := [some (.inr (.inr (some 79))), some (.inl p1), some (.inl l33_2), some (.inl v_h377), some (.inl v_h382)]) (st' := [.inr (.inr (some 103))]) (w' := (SH, dt383)) rfl (c_ne (a := v_h382) (b := 1) (by first | exact bnd h382r (by decide) (by decide) | exact ⟨by fail, by fail⟩) ⟨by decide, by decide⟩) (fun c416 => ?_) (fun c416 => ?_)
                      · skip
                        replace c416 := hid c416
                        refine go_toq PM232 (k := 2) (pc' := 107) (L' := [some (.inr (.inr (some 79))), some (.inl p1), some (.inl l33_2), some (.inl v_h377), some (.inl v_h382)]) (st' := [.inl 3, .inr (.inr (some 103)), .inl 3, .inr (.inr (some 103))]) (w' := (SH, dt383)) rfl ?_
                        have r417 : (-2147483648) ≤ dt383 103 3 ∧ dt383 103 3 ≤ 2147483647 := InvC_get hI384 103 3 rfl rfl
                        refine go_smpq PM232 (L' := [some (.inr (.inr (some 79))), some (.inl p1), some (.inl l33_2), some (.inl v_h377), some (.inl v_h382)]) (st' := [.inl (dt383 103 3), .inl 3, .inr (.inr (some 103))]) (w' := (SH, dt383)) rfl rfl (s_iald (n := 4) (f := dt383 103) rfl ⟨by decide, by decide⟩) ?_
                        refine go_toq PM232 (k := 2) (pc' := 110) (L' := [some (.inr (.inr (some 79))), some (.inl p1), some (.inl l33_2), some (.inl v_h377), some (.inl v_h382)]) (st' := [.inl ((dt383 103 3) + 1), .inl 3, .inr (.inr (some 103))]) (w' := (SH, dt383)) rfl ?_
                        have r418 := wr_RR ((dt383 103 3) + 1)
                        have hI419 : InvC (u2 dt383 103 3 (wr ((dt383 103 3) + 1))) := InvC_u2 hI384 (lo := -2147483648) (hi := 2147483647) rfl rfl rfl (by omega) (by omega)
                        have hF420 : Fr [88, 89, 90, 91, 92, 93, 94, 95, 96, 97, 98, 99, 100, 103] dt (u2 dt383 103 3 (wr ((dt383 103 3) + 1))) := Fr_u2 hF386 (by decide)
                        refine go_smpq PM232 (L' := [some (.inr (.inr (some 79))), some (.inl p1), some (.inl l33_2), some (.inl v_h377), some (.inl v_h382)]) (st' := []) (w' := (SH, (u2 dt383 103 3 (wr ((dt383 103 3) + 1))))) rfl rfl (s_iastw (n := 4) rfl ⟨by decide, by decide⟩) ?_
                        exact GO.le (j408 (u2 dt383 103 3 (wr ((dt383 103 3) + 1))) hI419 hF420) ⟨.inl rfl, .inl rfl, .inl rfl, .inr ⟨rfl, trivial⟩, .inr ⟨rfl, trivial⟩, trivial⟩
                      · skip
                        refine go_toq PM232 (k := 3) (pc' := 107) (L' := [some (.inr (.inr (some 79))), some (.inl p1), some (.inl l33_2), some (.inl v_h377), some (.inl v_h382)]) (st' := [.inl 2, .inr (.inr (some 103)), .inl 2, .inr (.inr (some 103))]) (w' := (SH, dt383)) rfl ?_
                        have r421 : (-2147483648) ≤ dt383 103 2 ∧ dt383 103 2 ≤ 2147483647 := InvC_get hI384 103 2 rfl rfl
                        refine go_smpq PM232 (L' := [some (.inr (.inr (some 79))), some (.inl p1), some (.inl l33_2), some (.inl v_h377), some (.inl v_h382)]) (st' := [.inl (dt383 103 2), .inl 2, .inr (.inr (some 103))]) (w' := (SH, dt383)) rfl rfl (s_iald (n := 4) (f := dt383 103) rfl ⟨by decide, by decide⟩) ?_
                        refine go_toq PM232 (k := 2) (pc' := 110) (L' := [some (.inr (.inr (some 79))), some (.inl p1), some (.inl l33_2), some (.inl v_h377), some (.inl v_h382)]) (st' := [.inl ((dt383 103 2) + 1), .inl 2, .inr (.inr (some 103))]) (w' := (SH, dt383)) rfl ?_
                        have r422 := wr_RR ((dt383 103 2) + 1)
                        have hI423 : InvC (u2 dt383 103 2 (wr ((dt383 103 2) + 1))) := InvC_u2 hI384 (lo := -2147483648) (hi := 2147483647) rfl rfl rfl (by omega) (by omega)
                        have hF424 : Fr [88, 89, 90, 91, 92, 93, 94, 95, 96, 97, 98, 99, 100, 103] dt (u2 dt383 103 2 (wr ((dt383 103 2) + 1))) := Fr_u2 hF386 (by decide)
                        refine go_smpq PM232 (L' := [some (.inr (.inr (some 79))), some (.inl p1), some (.inl l33_2), some (.inl v_h377), some (.inl v_h382)]) (st' := []) (w' := (SH, (u2 dt383 103 2 (wr ((dt383 103 2) + 1))))) rfl rfl (s_iastw (n := 4) rfl ⟨by decide, by decide⟩) ?_
                        exact GO.le (j408 (u2 dt383 103 2 (wr ((dt383 103 2) + 1))) hI423 hF424) ⟨.inl rfl, .inl rfl, .inl rfl, .inr ⟨rfl, trivial⟩, .inr ⟨rfl, trivial⟩, trivial⟩
                    · skip
                      refine go_ifq PM232 (k := 2) (p1 := 91) (p2 := 87) (L' := [some (.inr (.inr (some 79))), some (.inl p1), some (.inl l33_2), some (.inl v_h377), some (.inl v_h382)]) (st' := [.inr (.inr (some 103))]) (w' := (SH, dt383)) rfl (c_ne (a := v_h382) (b := 1) (by first | exact bnd h382r (by decide) (by decide) | exact ⟨by fail, by fail⟩) ⟨by decide, by decide⟩) (fun c426 => ?_) (fun c426 => ?_)
                      · skip
                        replace c426 := hid c426
                        refine go_toq PM232 (k := 3) (pc' := 107) (L' := [some (.inr (.inr (some 79))), some (.inl p1), some (.inl l33_2), some (.inl v_h377), some (.inl v_h382)]) (st' := [.inl 1, .inr (.inr (some 103)), .inl 1, .inr (.inr (some 103))]) (w' := (SH, dt383)) rfl ?_
                        have r427 : (-2147483648) ≤ dt383 103 1 ∧ dt383 103 1 ≤ 2147483647 := InvC_get hI384 103 1 rfl rfl
                        refine go_smpq PM232 (L' := [some (.inr (.inr (some 79))), some (.inl p1), some (.inl l33_2), some (.inl v_h377), some (.inl v_h382)]) (st' := [.inl (dt383 103 1), .inl 1, .inr (.inr (some 103))]) (w' := (SH, dt383)) rfl rfl (s_iald (n := 4) (f := dt383 103) rfl ⟨by decide, by decide⟩) ?_
                        refine go_toq PM232 (k := 2) (pc' := 110) (L' := [some (.inr (.inr (some 79))), some (.inl p1), some (.inl l33_2), some (.inl v_h377), some (.inl v_h382)]) (st' := [.inl ((dt383 103 1) + 1), .inl 1, .inr (.inr (some 103))]) (w' := (SH, dt383)) rfl ?_
                        have r428 := wr_RR ((dt383 103 1) + 1)
                        have hI429 : InvC (u2 dt383 103 1 (wr ((dt383 103 1) + 1))) := InvC_u2 hI384 (lo := -2147483648) (hi := 2147483647) rfl rfl rfl (by omega) (by omega)
                        have hF430 : Fr [88, 89, 90, 91, 92, 93, 94, 95, 96, 97, 98, 99, 100, 103] dt (u2 dt383 103 1 (wr ((dt383 103 1) + 1))) := Fr_u2 hF386 (by decide)
                        refine go_smpq PM232 (L' := [some (.inr (.inr (some 79))), some (.inl p1), some (.inl l33_2), some (.inl v_h377), some (.inl v_h382)]) (st' := []) (w' := (SH, (u2 dt383 103 1 (wr ((dt383 103 1) + 1))))) rfl rfl (s_iastw (n := 4) rfl ⟨by decide, by decide⟩) ?_
                        exact GO.le (j408 (u2 dt383 103 1 (wr ((dt383 103 1) + 1))) hI429 hF430) ⟨.inl rfl, .inl rfl, .inl rfl, .inr ⟨rfl, trivial⟩, .inr ⟨rfl, trivial⟩, trivial⟩
                      · skip
                        refine go_toq PM232 (k := 3) (pc' := 107) (L' := [some (.inr (.inr (some 79))), some (.inl p1), some (.inl l33_2), some (.inl v_h377), some (.inl v_h382)]) (st' := [.inl 0, .inr (.inr (some 103)), .inl 0, .inr (.inr (some 103))]) (w' := (SH, dt383)) rfl ?_
                        have r431 : (-2147483648) ≤ dt383 103 0 ∧ dt383 103 0 ≤ 2147483647 := InvC_get hI384 103 0 rfl rfl
                        refine go_smpq PM232 (L' := [some (.inr (.inr (some 79))), some (.inl p1), some (.inl l33_2), some (.inl v_h377), some (.inl v_h382)]) (st' := [.inl (dt383 103 0), .inl 0, .inr (.inr (some 103))]) (w' := (SH, dt383)) rfl rfl (s_iald (n := 4) (f := dt383 103) rfl ⟨by decide, by decide⟩) ?_
                        refine go_toq PM232 (k := 2) (pc' := 110) (L' := [some (.inr (.inr (some 79))), some (.inl p1), some (.inl l33_2), some (.inl v_h377), some (.inl v_h382)]) (st' := [.inl ((dt383 103 0) + 1), .inl 0, .inr (.inr (some 103))]) (w' := (SH, dt383)) rfl ?_
                        have r432 := wr_RR ((dt383 103 0) + 1)
                        have hI433 : InvC (u2 dt383 103 0 (wr ((dt383 103 0) + 1))) := InvC_u2 hI384 (lo := -2147483648) (hi := 2147483647) rfl rfl rfl (by omega) (by omega)
                        have hF434 : Fr [88, 89, 90, 91, 92, 93, 94, 95, 96, 97, 98, 99, 100, 103] dt (u2 dt383 103 0 (wr ((dt383 103 0) + 1))) := Fr_u2 hF386 (by decide)
                        refine go_smpq PM232 (L' := [some (.inr (.inr (some 79))), some (.inl p1), some (.inl l33_2), some (.inl v_h377), some (.inl v_h382)]) (st' := []) (w' := (SH, (u2 dt383 103 0 (wr ((dt383 103 0) + 1))))) rfl rfl (s_iastw (n := 4) rfl ⟨by decide, by decide⟩) ?_
                        exact GO.le (j408 (u2 dt383 103 0 (wr ((dt383 103 0) + 1))) hI433 hF434) ⟨.inl rfl, .inl rfl, .inl rfl, .inr ⟨rfl, trivial⟩, .inr ⟨rfl, trivial⟩, trivial⟩
                  · skip
                    refine go_toq PM232 (k := 1) (pc' := 111) (L' := [some (.inr (.inr (some 79))), some (.inl p1), some (.inl l33_2), some (.inl v_h377), some (.inl v_h382)]) (st' := []) (w' := (SH, dt383)) rfl ?_
                    exact GO.le (j408 dt383 hI384 hF386) ⟨.inl rfl, .inl rfl, .inl rfl, .inr ⟨rfl, trivial⟩, .inr ⟨rfl, trivial⟩, trivial⟩
          exact GO.le (loop323 _ 0 dt22 hI23 hF24 ⟨by decide, by decide⟩ (Nat.lt_succ_self _)) ⟨.inl rfl, .inl rfl, .inl rfl, .inl rfl, .inl rfl, trivial⟩
        · skip
          refine go_toq PM232 (k := 4) (pc' := 24) (L' := [some (.inr (.inr (some 79))), some (.inl p1), some (.inl l13_2), none, none]) (st' := [.inl 0, .inl l13_2, .inr (.inr (some 103))]) (w' := (SH, dt22)) rfl ?_
          have hI435 : InvC (u2 dt22 103 (l13_2).toNat 0) := InvC_u2 hI23 (lo := -2147483648) (hi := 2147483647) rfl rfl rfl (by decide) (by decide)
          have hF436 : Fr [88, 89, 90, 91, 92, 93, 94, 95, 96, 97, 98, 99, 100, 103] dt (u2 dt22 103 (l13_2).toNat 0) := Fr_u2 hF24 (by decide)
          refine go_smpq PM232 (L' := [some (.inr (.inr (some 79))), some (.inl p1), some (.inl l13_2), none, none]) (st' := []) (w' := (SH, (u2 dt22 103 (l13_2).toNat 0))) rfl rfl (s_iast (n := 4) rfl (by first | exact bndc i25 c30 (by decide) (by decide) | exact bndx i25 (by decide) (by decide) | exact ⟨by fail, by fail⟩) ⟨by decide, by decide⟩) ?_
          refine go_toq PM232 (k := 2) (pc' := 13) (L' := [some (.inr (.inr (some 79))), some (.inl p1), some (.inl (l13_2 + 1)), none, none]) (st' := []) (w' := (SH, (u2 dt22 103 (l13_2).toNat 0))) rfl ?_
          exact GO.le (ih_loop26 (l13_2 + 1) (u2 dt22 103 (l13_2).toNat 0) hI435 hF436 (by first | exact bndp i25 (by decide) (by decide) | exact bnde i25 c30 (by decide) (by decide) | fail) (by omega)) ⟨.inl rfl, .inl rfl, .inl rfl, .inl rfl, .inl rfl, trivial⟩
    exact GO.le (loop26 _ 0 dt hI hF ⟨by decide, by decide⟩ (Nat.lt_succ_self _)) ⟨.inl rfl, .inl rfl, .inl rfl, .inl rfl, .inl rfl, trivial⟩
  · skip
    refine go_retq PM232 (k := 2) (r := some (.inl (-1))) (w1 := (SH, dt)) rfl ?_
    exact ⟨dt, rfl, hI, hF, ⟨_, rfl, ⟨by decide, by decide⟩, trivial⟩⟩
set_option maxRecDepth 20000 in
theorem sp_X6_isRare (L : Nat) (xs : Nat → Int32) (sio : Option Nat) (d : Nat) (dt : Nat → Nat → Int) (hI : InvC dt)  (p1 : Int) (h_p1 : 0 ≤ p1 ∧ p1 ≤ 40) (p2 : Int) (h_p2 : 1 ≤ p2 ∧ p2 ≤ 40)  : GO (am_XX L xs sio) (d) 234 0 [some (.inr (.inr (some 79))), some (.inl p1), some (.inl p2), none, none, none] [] (SH, dt) (fun r w2 => ∃ dt2 : Nat → Nat → Int, w2 = (SH, dt2) ∧ InvC dt2 ∧ Fr [104] dt dt2 ∧ ((r = some (.inl 1) ∧ True) ∨ (r = some (.inl 0) ∧ True))) := by
  have hF : Fr [104] dt dt := Fr_refl
  refine go_toq PM234 (k := 2) (pc' := 2) (L' := [some (.inr (.inr (some 79))), some (.inl p1), some (.inl p2), some (.inl 0), none, none]) (st' := []) (w' := (SH, dt)) rfl ?_
  have loop61 : ∀ (k_ : Nat) (l2_3 : Int) (dt57 : Nat → Nat → Int) (hI58 : InvC dt57) (hF59 : Fr [104] dt dt57) (i60 : 0 ≤ l2_3 ∧ l2_3 ≤ 42), (43 - l2_3).toNat < k_ → GO (am_XX L xs sio) (d) 234 2 [some (.inr (.inr (some 79))), some (.inl p1), some (.inl p2), some (.inl l2_3), none, none] [] (SH, dt57) (fun r w2 => ∃ dt2 : Nat → Nat → Int, w2 = (SH, dt2) ∧ InvC dt2 ∧ Fr [104] dt dt2 ∧ ((r = some (.inl 1) ∧ True) ∨ (r = some (.inl 0) ∧ True))) := by
    intro k_
    induction k_ with
    | zero => intro l2_3 dt57 hI58 hF59 i60 hm; exact absurd hm (Nat.not_lt_zero _)
    | succ k_ ih_loop61 =>
      intro l2_3 dt57 hI58 hF59 i60 hm
      refine go_ifq PM234 (k := 2) (p1 := 29) (p2 := 8) (L' := [some (.inr (.inr (some 79))), some (.inl p1), some (.inl p2), some (.inl l2_3), none, none]) (st' := []) (w' := (SH, dt57)) rfl (c_ge (a := l2_3) (b := 42) (by first | exact bnd i60 (by decide) (by decide) | exact ⟨by fail, by fail⟩) ⟨by decide, by decide⟩) (fun c68 => ?_) (fun c68 => ?_)
      · skip
        refine go_toq PM234 (k := 2) (pc' := 31) (L' := [some (.inr (.inr (some 79))), some (.inl p1), some (.inl p2), some (.inl 1), none, none]) (st' := []) (w' := (SH, dt57)) rfl ?_
        have loop265 : ∀ (k_ : Nat) (l31_3 : Int) (dt261 : Nat → Nat → Int) (hI262 : InvC dt261) (hF263 : Fr [104] dt dt261) (i264 : 1 ≤ l31_3 ∧ l31_3 ≤ 41), (42 - l31_3).toNat < k_ → GO (am_XX L xs sio) (d) 234 31 [some (.inr (.inr (some 79))), some (.inl p1), some (.inl p2), some (.inl l31_3), none, none] [] (SH, dt261) (fun r w2 => ∃ dt2 : Nat → Nat → Int, w2 = (SH, dt2) ∧ InvC dt2 ∧ Fr [104] dt dt2 ∧ ((r = some (.inl 1) ∧ True) ∨ (r = some (.inl 0) ∧ True))) := by
          intro k_
          induction k_ with
          | zero => intro l31_3 dt261 hI262 hF263 i264 hm; exact absurd hm (Nat.not_lt_zero _)
          | succ k_ ih_loop265 =>
            intro l31_3 dt261 hI262 hF263 i264 hm
            refine go_ifq PM234 (k := 2) (p1 := 75) (p2 := 36) (L' := [some (.inr (.inr (some 79))), some (.inl p1), some (.inl p2), some (.inl l31_3), none, none]) (st' := []) (w' := (SH, dt261)) rfl (c_gt (a := l31_3) (b := p2) (by first | exact bnd i264 (by decide) (by decide) | exact ⟨by fail, by fail⟩) (by first | exact bnd h_p2 (by decide) (by decide) | exact ⟨by fail, by fail⟩)) (fun c289 => ?_) (fun c289 => ?_)
            · skip
              refine go_toq PM234 (k := 4) (pc' := 80) (L' := [some (.inr (.inr (some 79))), some (.inl p1), some (.inl p2), some (.inr (.inl 0)), none, some (.inl p1)]) (st' := []) (w' := (SH, dt261)) rfl ?_
              have loop300 : ∀ (k_ : Nat) (l80_3 : Int) (l80_5 : Int) (i299 : 0 ≤ l80_5 ∧ l80_5 ≤ 41), (42 - l80_5).toNat < k_ → GO (am_XX L xs sio) (d) 234 80 [some (.inr (.inr (some 79))), none, some (.inl p2), some (.inr (.inl l80_3)), none, some (.inl l80_5)] [] (SH, dt261) (fun r w2 => ∃ dt2 : Nat → Nat → Int, w2 = (SH, dt2) ∧ InvC dt2 ∧ Fr [104] dt dt2 ∧ ((r = some (.inl 1) ∧ True) ∨ (r = some (.inl 0) ∧ True))) := by
                intro k_
                induction k_ with
                | zero => intro l80_3 l80_5 i299 hm; exact absurd hm (Nat.not_lt_zero _)
                | succ k_ ih_loop300 =>
                  intro l80_3 l80_5 i299 hm
                  refine go_ifq PM234 (k := 2) (p1 := 102) (p2 := 86) (L' := [some (.inr (.inr (some 79))), none, some (.inl p2), some (.inr (.inl l80_3)), none, some (.inl l80_5)]) (st' := []) (w' := (SH, dt261)) rfl (c_gt (a := l80_5) (b := p2) (by first | exact bnd i299 (by decide) (by decide) | exact ⟨by fail, by fail⟩) (by first | exact bnd h_p2 (by decide) (by decide) | exact ⟨by fail, by fail⟩)) (fun c303 => ?_) (fun c303 => ?_)
                  · skip
                    refine go_toq PM234 (k := 6) (pc' := 112) (L' := [some (.inr (.inr (some 79))), none, some (.inl p2), some (.inr (.inl l80_3)), none, some (.inl l80_5)]) (st' := [.inr (.inl 50), .inr (.inl (am_lshr (l80_3 * 1000) p2))]) (w' := (SH, dt261)) rfl ?_
                    rcases Int.lt_trichotomy (wl (am_lshr (l80_3 * 1000) p2)) 50 with c305 | c305 | c305
                    · refine go_smpq PM234 (L' := [some (.inr (.inr (some 79))), none, some (.inl p2), some (.inr (.inl l80_3)), none, some (.inl l80_5)]) (st' := [.inl (-1)]) (w' := (SH, dt261)) rfl rfl (s_lclw (a' := (wl (am_lshr (l80_3 * 1000) p2))) (b' := 50) rfl rfl c305) ?_
                      refine go_retq PM234 (k := 3) (r := some (.inl 1)) (w1 := (SH, dt261)) rfl ?_
                      exact ⟨dt261, rfl, hI262, hF263, (Or.inl ⟨rfl, trivial⟩)⟩
                    · refine go_smpq PM234 (L' := [some (.inr (.inr (some 79))), none, some (.inl p2), some (.inr (.inl l80_3)), none, some (.inl l80_5)]) (st' := [.inl 0]) (w' := (SH, dt261)) rfl rfl (s_lcew (a' := (wl (am_lshr (l80_3 * 1000) p2))) (b' := 50) rfl rfl c305) ?_
                      refine go_retq PM234 (k := 2) (r := some (.inl 0)) (w1 := (SH, dt261)) rfl ?_
                      exact ⟨dt261, rfl, hI262, hF263, (Or.inr ⟨rfl, trivial⟩)⟩
                    · refine go_smpq PM234 (L' := [some (.inr (.inr (some 79))), none, some (.inl p2), some (.inr (.inl l80_3)), none, some (.inl l80_5)]) (st' := [.inl 1]) (w' := (SH, dt261)) rfl rfl (s_lcgw (a' := (wl (am_lshr (l80_3 * 1000) p2))) (b' := 50) rfl rfl c305) ?_
                      refine go_retq PM234 (k := 2) (r := some (.inl 0)) (w1 := (SH, dt261)) rfl ?_
                      exact ⟨dt261, rfl, hI262, hF263, (Or.inr ⟨rfl, trivial⟩)⟩
                  · skip
                    refine go_toq PM234 (k := 4) (pc' := 93) (L' := [some (.inr (.inr (some 79))), none, some (.inl p2), some (.inr (.inl l80_3)), none, some (.inl l80_5)]) (st' := [.inl l80_5, .inr (.inr (some 104)), .inr (.inl l80_3)]) (w' := (SH, dt261)) rfl ?_
                    have r306 : (-9223372036854775808) ≤ dt261 104 (l80_5).toNat ∧ dt261 104 (l80_5).toNat ≤ 9223372036854775807 := InvC_get hI262 104 (l80_5).toNat rfl rfl
                    refine go_smpq PM234 (L' := [some (.inr (.inr (some 79))), none, some (.inl p2), some (.inr (.inl l80_3)), none, some (.inl l80_5)]) (st' := [.inr (.inl (dt261 104 (l80_5).toNat)), .inr (.inl l80_3)]) (w' := (SH, dt261)) rfl rfl (s_lald (n := 42) (f := dt261 104) rfl (by first | exact bndx i299 (by decide) (by decide) | exact ⟨by fail, by fail⟩)) ?_
                    refine go_toq PM234 (k := 4) (pc' := 80) (L' := [some (.inr (.inr (some 79))), none, some (.inl p2), some (.inr (.inl (l80_3 + (dt261 104 (l80_5).toNat)))), none, some (.inl (l80_5 + 1))]) (st' := []) (w' := (SH, dt261)) rfl ?_
                    exact GO.le (ih_loop300 (l80_3 + (dt261 104 (l80_5).toNat)) (l80_5 + 1) (by first | exact bndp i299 (by decide) (by decide) | omega) (by omega)) ⟨.inl rfl, .inl rfl, .inl rfl, .inl rfl, .inl rfl, .inl rfl, trivial⟩
              exact GO.le (loop300 _ 0 p1 (by first | exact bnd h_p1 (by decide) (by decide) | fail) (Nat.lt_succ_self _)) ⟨.inl rfl, .inr ⟨rfl, trivial⟩, .inl rfl, .inl rfl, .inl rfl, .inl rfl, trivial⟩
            · skip
              refine go_toq PM234 (k := 2) (pc' := 39) (L' := [some (.inr (.inr (some 79))), some (.inl p1), some (.inl p2), some (.inl l31_3), some (.inl l31_3), none]) (st' := []) (w' := (SH, dt261)) rfl ?_
              have loop325 : ∀ (k_ : Nat) (l39_4 : Int) (dt321 : Nat → Nat → Int) (hI322 : InvC dt321) (hF323 : Fr [104] dt dt321) (i324 : 0 ≤ l39_4 ∧ l39_4 ≤ 40), (l39_4 + 1).toNat < k_ → GO (am_XX L xs sio) (d) 234 39 [some (.inr (.inr (some 79))), some (.inl p1), some (.inl p2), some (.inl l31_3), some (.inl l39_4), none] [] (SH, dt321) (fun r w2 => ∃ dt2 : Nat → Nat → Int, w2 = (SH, dt2) ∧ InvC dt2 ∧ Fr [104] dt dt2 ∧ ((r = some (.inl 1) ∧ True) ∨ (r = some (.inl 0) ∧ True))) := by
                intro k_
                induction k_ with
                | zero => intro l39_4 dt321 hI322 hF323 i324 hm; exact absurd hm (Nat.not_lt_zero _)
                | succ k_ ih_loop325 =>
                  intro l39_4 dt321 hI322 hF323 i324 hm
                  refine go_ifq PM234 (k := 1) (p1 := 69) (p2 := 44) (L' := [some (.inr (.inr (some 79))), some (.inl p1), some (.inl p2), some (.inl l31_3), some (.inl l39_4), none]) (st' := []) (w' := (SH, dt321)) rfl (z_le (a := l39_4) (by first | exact bnd i324 (by decide) (by decide) | exact ⟨by fail, by fail⟩)) (fun c332 => ?_) (fun c332 => ?_)
                  · skip
                    refine go_toq PM234 (k := 2) (pc' := 31) (L' := [some (.inr (.inr (some 79))), some (.inl p1), some (.inl p2), some (.inl (l31_3 + 1)), some (.inl l39_4), none]) (st' := []) (w' := (SH, dt321)) rfl ?_
                    exact GO.le (ih_loop265 (l31_3 + 1) dt321 hI322 hF323 (by first | exact bndp i264 (by decide) (by decide) | omega) (by omega)) ⟨.inl rfl, .inl rfl, .inl rfl, .inl rfl, .inr ⟨rfl, trivial⟩, .inl rfl, trivial⟩
                  · skip
                    refine go_toq PM234 (k := 4) (pc' := 51) (L' := [some (.inr (.inr (some 79))), some (.inl p1), some (.inl p2), some (.inl l31_3), some (.inl l39_4), none]) (st' := [.inl l39_4, .inr (.inr (some 104)), .inl l39_4, .inr (.inr (some 104))]) (w' := (SH, dt321)) rfl ?_
                    have r333 : (-9223372036854775808) ≤ dt321 104 (l39_4).toNat ∧ dt321 104 (l39_4).toNat ≤ 9223372036854775807 := InvC_get hI322 104 (l39_4).toNat rfl rfl
                    refine go_smpq PM234 (L' := [some (.inr (.inr (some 79))), some (.inl p1), some (.inl p2), some (.inl l31_3), some (.inl l39_4), none]) (st' := [.inr (.inl (dt321 104 (l39_4).toNat)), .inl l39_4, .inr (.inr (some 104))]) (w' := (SH, dt321)) rfl rfl (s_lald (n := 42) (f := dt321 104) rfl (by first | exact bndx i324 (by decide) (by decide) | exact ⟨by fail, by fail⟩)) ?_
                    refine go_toq PM234 (k := 5) (pc' := 60) (L' := [some (.inr (.inr (some 79))), some (.inl p1), some (.inl p2), some (.inl l31_3), some (.inl l39_4), none]) (st' := [.inl (l39_4 - 1), .inr (.inr (some 104)), .inr (.inl (dt321 104 (l39_4).toNat)), .inl l39_4, .inr (.inr (some 104))]) (w' := (SH, dt321)) rfl ?_
                    have r334 : (-9223372036854775808) ≤ dt321 104 ((l39_4 - 1).toNat) ∧ dt321 104 ((l39_4 - 1).toNat) ≤ 9223372036854775807 := InvC_get hI322 104 ((l39_4 - 1).toNat) rfl rfl
                    refine go_smpq PM234 (L' := [some (.inr (.inr (some 79))), some (.inl p1), some (.inl p2), some (.inl l31_3), some (.inl l39_4), none]) (st' := [.inr (.inl (dt321 104 ((l39_4 - 1).toNat))), .inr (.inl (dt321 104 (l39_4).toNat)), .inl l39_4, .inr (.inr (some 104))]) (w' := (SH, dt321)) rfl rfl (s_lald (n := 42) (f := dt321 104) rfl ⟨by omega, by omega⟩) ?_
                    refine go_toq PM234 (k := 1) (pc' := 62) (L' := [some (.inr (.inr (some 79))), some (.inl p1), some (.inl p2), some (.inl l31_3), some (.inl l39_4), none]) (st' := [.inr (.inl ((dt321 104 (l39_4).toNat) + (dt321 104 ((l39_4 - 1).toNat)))), .inl l39_4, .inr (.inr (some 104))]) (w' := (SH, dt321)) rfl ?_
                    have r335 := wl_RR ((dt321 104 (l39_4).toNat) + (dt321 104 ((l39_4 - 1).toNat)))
                    have hI336 : InvC (u2 dt321 104 (l39_4).toNat (wl ((dt321 104 (l39_4).toNat) + (dt321 104 ((l39_4 - 1).toNat))))) := InvC_u2 hI322 (lo := -9223372036854775808) (hi := 9223372036854775807) rfl rfl rfl (by omega) (by omega)
                    have hF337 : Fr [104] dt (u2 dt321 104 (l39_4).toNat (wl ((dt321 104 (l39_4).toNat) + (dt321 104 ((l39_4 - 1).toNat))))) := Fr_u2 hF323 (by decide)
                    refine go_smpq PM234 (L' := [some (.inr (.inr (some 79))), some (.inl p1), some (.inl p2), some (.inl l31_3), some (.inl l39_4), none]) (st' := []) (w' := (SH, (u2 dt321 104 (l39_4).toNat (wl ((dt321 104 (l39_4).toNat) + (dt321 104 ((l39_4 - 1).toNat))))))) rfl rfl (s_lastw (n := 42) rfl (by first | exact bndx i324 (by decide) (by decide) | exact ⟨by fail, by fail⟩)) ?_
                    refine go_toq PM234 (k := 2) (pc' := 39) (L' := [some (.inr (.inr (some 79))), some (.inl p1), some (.inl p2), some (.inl l31_3), some (.inl (l39_4 + (-1))), none]) (st' := []) (w' := (SH, (u2 dt321 104 (l39_4).toNat (wl ((dt321 104 (l39_4).toNat) + (dt321 104 ((l39_4 - 1).toNat))))))) rfl ?_
                    exact GO.le (ih_loop325 (l39_4 + (-1)) (u2 dt321 104 (l39_4).toNat (wl ((dt321 104 (l39_4).toNat) + (dt321 104 ((l39_4 - 1).toNat))))) hI336 hF337 (by omega) (by omega)) ⟨.inl rfl, .inl rfl, .inl rfl, .inl rfl, .inl rfl, .inl rfl, trivial⟩
              exact GO.le (loop325 _ l31_3 dt261 hI262 hF263 (by first | exact bnd i264 (by decide) (by decide) | omega) (Nat.lt_succ_self _)) ⟨.inl rfl, .inl rfl, .inl rfl, .inl rfl, .inl rfl, .inl rfl, trivial⟩
        exact GO.le (loop265 _ 1 dt57 hI58 hF59 ⟨by decide, by decide⟩ (Nat.lt_succ_self _)) ⟨.inl rfl, .inl rfl, .inl rfl, .inl rfl, .inl rfl, .inl rfl, trivial⟩
      · skip
        refine go_ifq PM234 (k := 4) (p1 := 21) (p2 := 17) (L' := [some (.inr (.inr (some 79))), some (.inl p1), some (.inl p2), some (.inl l2_3), none, none]) (st' := [.inl l2_3, .inr (.inr (some 104))]) (w' := (SH, dt57)) rfl (z_ne (a := l2_3) (by first | exact bnd i60 (by decide) (by decide) | exact bndd i60 c68 (by decide) (by decide) | exact ⟨by fail, by fail⟩)) (fun c339 => ?_) (fun c339 => ?_)
        · skip
          replace c339 := hid c339
          refine go_toq PM234 (k := 1) (pc' := 22) (L' := [some (.inr (.inr (some 79))), some (.inl p1), some (.inl p2), some (.inl l2_3), none, none]) (st' := [.inr (.inl 0), .inl l2_3, .inr (.inr (some 104))]) (w' := (SH, dt57)) rfl ?_
          have hI340 : InvC (u2 dt57 104 (l2_3).toNat 0) := InvC_u2 hI58 (lo := -9223372036854775808) (hi := 9223372036854775807) rfl rfl rfl (by decide) (by decide)
          have hF341 : Fr [104] dt (u2 dt57 104 (l2_3).toNat 0) := Fr_u2 hF59 (by decide)
          refine go_smpq PM234 (L' := [some (.inr (.inr (some 79))), some (.inl p1), some (.inl p2), some (.inl l2_3), none, none]) (st' := []) (w' := (SH, (u2 dt57 104 (l2_3).toNat 0))) rfl rfl (s_last (n := 42) rfl (by first | exact bndc i60 c68 (by decide) (by decide) | exact bndx i60 (by decide) (by decide) | exact ⟨by fail, by fail⟩) ⟨by omega, by omega⟩) ?_
          refine go_toq PM234 (k := 2) (pc' := 2) (L' := [some (.inr (.inr (some 79))), some (.inl p1), some (.inl p2), some (.inl (l2_3 + 1)), none, none]) (st' := []) (w' := (SH, (u2 dt57 104 (l2_3).toNat 0))) rfl ?_
          exact GO.le (ih_loop61 (l2_3 + 1) (u2 dt57 104 (l2_3).toNat 0) hI340 hF341 (by first | exact bndp i60 (by decide) (by decide) | exact bnde i60 c68 (by decide) (by decide) | fail) (by omega)) ⟨.inl rfl, .inl rfl, .inl rfl, .inl rfl, .inl rfl, .inl rfl, trivial⟩
        · skip
          refine go_toq PM234 (k := 2) (pc' := 22) (L' := [some (.inr (.inr (some 79))), some (.inl p1), some (.inl p2), some (.inl l2_3), none, none]) (st' := [.inr (.inl 1), .inl l2_3, .inr (.inr (some 104))]) (w' := (SH, dt57)) rfl ?_
          have hI342 : InvC (u2 dt57 104 (l2_3).toNat 1) := InvC_u2 hI58 (lo := -9223372036854775808) (hi := 9223372036854775807) rfl rfl rfl (by decide) (by decide)
          have hF343 : Fr [104] dt (u2 dt57 104 (l2_3).toNat 1) := Fr_u2 hF59 (by decide)
          refine go_smpq PM234 (L' := [some (.inr (.inr (some 79))), some (.inl p1), some (.inl p2), some (.inl l2_3), none, none]) (st' := []) (w' := (SH, (u2 dt57 104 (l2_3).toNat 1))) rfl rfl (s_last (n := 42) rfl (by first | exact bndc i60 c68 (by decide) (by decide) | exact bndx i60 (by decide) (by decide) | exact ⟨by fail, by fail⟩) ⟨by omega, by omega⟩) ?_
          refine go_toq PM234 (k := 2) (pc' := 2) (L' := [some (.inr (.inr (some 79))), some (.inl p1), some (.inl p2), some (.inl (l2_3 + 1)), none, none]) (st' := []) (w' := (SH, (u2 dt57 104 (l2_3).toNat 1))) rfl ?_
          exact GO.le (ih_loop61 (l2_3 + 1) (u2 dt57 104 (l2_3).toNat 1) hI342 hF343 (by first | exact bndp i60 (by decide) (by decide) | exact bnde i60 c68 (by decide) (by decide) | fail) (by omega)) ⟨.inl rfl, .inl rfl, .inl rfl, .inl rfl, .inl rfl, .inl rfl, trivial⟩
  exact GO.le (loop61 _ 0 dt hI hF ⟨by decide, by decide⟩ (Nat.lt_succ_self _)) ⟨.inl rfl, .inl rfl, .inl rfl, .inl rfl, .inl rfl, .inl rfl, trivial⟩
set_option maxRecDepth 20000 in
theorem sp_X6_isLong (L : Nat) (xs : Nat → Int32) (sio : Option Nat) (d : Nat) (dt : Nat → Nat → Int) (hI : InvC dt) (hM : MW (dt 80))  (p1 : Int) (h_p1 : 0 ≤ p1 ∧ p1 ≤ 23)  : GO (am_XX L xs sio) (d + 1) 235 0 [some (.inr (.inr (some 79))), some (.inl p1), none, none, none, none, none, none, none, none, none] [] (SH, dt) (fun r w2 => ∃ dt2 : Nat → Nat → Int, w2 = (SH, dt2) ∧ InvC dt2 ∧ Fr [104] dt dt2 ∧ ((r = some (.inl 1) ∧ True) ∨ (r = some (.inl 0) ∧ True))) := by
  have hF : Fr [104] dt dt := Fr_refl
  refine go_toq PM235 (k := 2) (pc' := 3) (L' := [some (.inr (.inr (some 79))), some (.inl p1), none, none, none, none, none, none, none, none, none]) (st' := [.inl 6, .inl p1]) (w' := (SH, dt)) rfl ?_
  refine go_smpq PM235 (L' := [some (.inr (.inr (some 79))), some (.inl p1), none, none, none, none, none, none, none, none, none]) (st' := [.inl (p1 / 6)]) (w' := (SH, dt)) rfl rfl (s_idivc ⟨by omega, by omega⟩ ⟨by omega, by omega⟩) ?_
  have j4 : ∀ (j4_s0 : Int) (i5 : 0 ≤ j4_s0 ∧ j4_s0 ≤ 600), GO (am_XX L xs sio) (d + 1) 235 41 [some (.inr (.inr (some 79))), some (.inl p1), none, none, none, none, none, none, none, none, none] [.inl j4_s0] (SH, dt) (fun r w2 => ∃ dt2 : Nat → Nat → Int, w2 = (SH, dt2) ∧ InvC dt2 ∧ Fr [104] dt dt2 ∧ ((r = some (.inl 1) ∧ True) ∨ (r = some (.inl 0) ∧ True))) := by
    intro j4_s0 i5
    refine go_toq PM235 (k := 3) (pc' := 44) (L' := [some (.inr (.inr (some 79))), some (.inl p1), some (.inl j4_s0), none, none, none, none, none, none, none, none]) (st' := [.inl 2, .inl p1]) (w' := (SH, dt)) rfl ?_
    refine go_smpq PM235 (L' := [some (.inr (.inr (some 79))), some (.inl p1), some (.inl j4_s0), none, none, none, none, none, none, none, none]) (st' := [.inl (p1 / 2)]) (w' := (SH, dt)) rfl rfl (s_idivc ⟨by omega, by omega⟩ ⟨by omega, by omega⟩) ?_
    refine go_toq PM235 (k := 1) (pc' := 46) (L' := [some (.inr (.inr (some 79))), some (.inl p1), some (.inl j4_s0), none, none, none, none, none, none, none, none]) (st' := [.inl 3, .inl (p1 / 2)]) (w' := (SH, dt)) rfl ?_
    refine go_smpq PM235 (L' := [some (.inr (.inr (some 79))), some (.inl p1), some (.inl j4_s0), none, none, none, none, none, none, none, none]) (st' := [.inl ((p1 / 2) % 3)]) (w' := (SH, dt)) rfl rfl (s_iremc ⟨by omega, by omega⟩ ⟨by omega, by omega⟩) ?_
    refine go_toq PM235 (k := 11) (pc' := 63) (L' := [some (.inr (.inr (some 79))), some (.inl p1), some (.inl j4_s0), some (.inl ((p1 / 2) % 3)), some (.inl 0), some (.inl 0), some (.inl 0), some (.inl 0), some (.inl 0), none, none]) (st' := []) (w' := (SH, dt)) rfl ?_
    have loop291 : ∀ (k_ : Nat) (l63_4 : Int) (l63_5 : Int) (l63_6 : Int) (l63_7 : Int) (l63_8 : Int) (i286 : 0 ≤ l63_6 ∧ l63_6 ≤ 40) (i287 : 0 ≤ l63_7 ∧ l63_7 ≤ 40) (i288 : 0 ≤ l63_8 ∧ l63_8 ≤ 40) (i289 : l63_6 ≤ l63_8) (i290 : l63_7 ≤ l63_8), (41 - l63_8).toNat < k_ → GO (am_XX L xs sio) (d + 1) 235 63 [some (.inr (.inr (some 79))), some (.inl p1), some (.inl j4_s0), some (.inl ((p1 / 2) % 3)), some (.inl l63_4), some (.inl l63_5), some (.inl l63_6), some (.inl l63_7), some (.inl l63_8), none, none] [] (SH, dt) (fun r w2 => ∃ dt2 : Nat → Nat → Int, w2 = (SH, dt2) ∧ InvC dt2 ∧ Fr [104] dt dt2 ∧ ((r = some (.inl 1) ∧ True) ∨ (r = some (.inl 0) ∧ True))) := by
      intro k_
      induction k_ with
      | zero => intro l63_4 l63_5 l63_6 l63_7 l63_8 i286 i287 i288 i289 i290 hm; exact absurd hm (Nat.not_lt_zero _)
      | succ k_ ih_loop291 =>
        intro l63_4 l63_5 l63_6 l63_7 l63_8 i286 i287 i288 i289 i290 hm
        refine go_toq PM235 (k := 4) (pc' := 70) (L' := [some (.inr (.inr (some 79))), some (.inl p1), some (.inl j4_s0), some (.inl ((p1 / 2) % 3)), some (.inl l63_4), some (.inl l63_5), some (.inl l63_6), some (.inl l63_7), some (.inl l63_8), none, none]) (st' := [.inl 4, .inr (.inr (some 80)), .inl l63_8]) (w' := (SH, dt)) rfl ?_
        have r292 : (-2147483648) ≤ dt 80 4 ∧ dt 80 4 ≤ 2147483647 := InvC_get hI 80 4 rfl rfl
        have r293 := MW_n hM
        refine go_smpq PM235 (L' := [some (.inr (.inr (some 79))), some (.inl p1), some (.inl j4_s0), some (.inl ((p1 / 2) % 3)), some (.inl l63_4), some (.inl l63_5), some (.inl l63_6), some (.inl l63_7), some (.inl l63_8), none, none]) (st' := [.inl (dt 80 4), .inl l63_8]) (w' := (SH, dt)) rfl rfl (s_iald (n := 7460) (f := dt 80) rfl ⟨by decide, by decide⟩) ?_
        refine go_ifq PM235 (k := 0) (p1 := 239) (p2 := 74) (L' := [some (.inr (.inr (some 79))), some (.inl p1), some (.inl j4_s0), some (.inl ((p1 / 2) % 3)), some (.inl l63_4), some (.inl l63_5), some (.inl l63_6), some (.inl l63_7), some (.inl l63_8), none, none]) (st' := []) (w' := (SH, dt)) rfl (c_ge (a := l63_8) (b := dt 80 4) (by first | exact bnd i288 (by decide) (by decide) | exact ⟨by fail, by fail⟩) (by first | exact bnd r292 (by decide) (by decide) | exact ⟨by fail, by fail⟩)) (fun c326 => ?_) (fun c326 => ?_)
        · skip
          refine go_toq PM235 (k := 2) (pc' := 241) (L' := [some (.inr (.inr (some 79))), some (.inl p1), some (.inl j4_s0), some (.inl ((p1 / 2) % 3)), some (.inl l63_4), some (.inl l63_5), some (.inl l63_6), some (.inl l63_7), some (.inl l63_8), none, none]) (st' := [.inl 2, .inl p1]) (w' := (SH, dt)) rfl ?_
          refine go_smpq PM235 (L' := [some (.inr (.inr (some 79))), some (.inl p1), some (.inl j4_s0), some (.inl ((p1 / 2) % 3)), some (.inl l63_4), some (.inl l63_5), some (.inl l63_6), some (.inl l63_7), some (.inl l63_8), none, none]) (st' := [.inl (p1 % 2)]) (w' := (SH, dt)) rfl rfl (s_iremc ⟨by omega, by omega⟩ ⟨by omega, by omega⟩) ?_
          have j337 : ∀ (j337_d : Nat → Nat → Int) (j337_hI : InvC j337_d) (j337_hF : Fr [104] dt j337_d), GO (am_XX L xs sio) (d + 1) 235 290 [some (.inr (.inr (some 79))), none, none, none, none, none, none, none, none, none, none] [.inl 0] (SH, j337_d) (fun r w2 => ∃ dt2 : Nat → Nat → Int, w2 = (SH, dt2) ∧ InvC dt2 ∧ Fr [104] dt dt2 ∧ ((r = some (.inl 1) ∧ True) ∨ (r = some (.inl 0) ∧ True))) := by
            intro j337_d j337_hI j337_hF
            refine go_retq PM235 (k := 0) (r := some (.inl 0)) (w1 := (SH, j337_d)) rfl ?_
            exact ⟨j337_d, rfl, j337_hI, j337_hF, (Or.inr ⟨rfl, trivial⟩)⟩
          have j338 : ∀ (j338_d : Nat → Nat → Int) (j338_hI : InvC j338_d) (j338_hF : Fr [104] dt j338_d), GO (am_XX L xs sio) (d + 1) 235 290 [some (.inr (.inr (some 79))), none, none, none, none, none, none, none, none, none, none] [.inl 1] (SH, j338_d) (fun r w2 => ∃ dt2 : Nat → Nat → Int, w2 = (SH, dt2) ∧ InvC dt2 ∧ Fr [104] dt dt2 ∧ ((r = some (.inl 1) ∧ True) ∨ (r = some (.inl 0) ∧ True))) := by
            intro j338_d j338_hI j338_hF
            refine go_retq PM235 (k := 0) (r := some (.inl 1)) (w1 := (SH, j338_d)) rfl ?_
            exact ⟨j338_d, rfl, j338_hI, j338_hF, (Or.inl ⟨rfl, trivial⟩)⟩
          refine go_ifq PM235 (k := 0) (p1 := 269) (p2 := 245) (L' := [some (.inr (.inr (some 79))), some (.inl p1), some (.inl j4_s0), some (.inl ((p1 / 2) % 3)), some (.inl l63_4), some (.inl l63_5), some (.inl l63_6), some (.inl l63_7), some (.inl l63_8), none, none]) (st' := []) (w' := (SH, dt)) rfl (z_ne (a := p1 % 2) ⟨by omega, by omega⟩) (fun c339 => ?_) (fun c339 => ?_)
          · skip
            replace c339 := hid c339
            refine go_ifq PM235 (k := 1) (p1 := 289) (p2 := 274) (L' := [some (.inr (.inr (some 79))), some (.inl p1), some (.inl j4_s0), some (.inl ((p1 / 2) % 3)), some (.inl l63_4), some (.inl l63_5), some (.inl l63_6), some (.inl l63_7), some (.inl l63_8), none, none]) (st' := []) (w' := (SH, dt)) rfl (z_eq (a := l63_6) (by first | exact bnd i286 (by decide) (by decide) | exact ⟨by fail, by fail⟩)) (fun c340 => ?_) (fun c340 => ?_)
            · skip
              refine go_toq PM235 (k := 1) (pc' := 290) (L' := [some (.inr (.inr (some 79))), some (.inl p1), some (.inl j4_s0), some (.inl ((p1 / 2) % 3)), some (.inl l63_4), some (.inl l63_5), some (.inl l63_6), some (.inl l63_7), some (.inl l63_8), none, none]) (st' := [.inl 0]) (w' := (SH, dt)) rfl ?_
              exact GO.le (j337 dt hI hF) ⟨.inl rfl, .inr ⟨rfl, trivial⟩, .inr ⟨rfl, trivial⟩, .inr ⟨rfl, trivial⟩, .inr ⟨rfl, trivial⟩, .inr ⟨rfl, trivial⟩, .inr ⟨rfl, trivial⟩, .inr ⟨rfl, trivial⟩, .inr ⟨rfl, trivial⟩, .inl rfl, .inl rfl, trivial⟩
            · skip
              replace c340 := hid c340
              refine go_toq PM235 (k := 3) (pc' := 279) (L' := [some (.inr (.inr (some 79))), some (.inl p1), some (.inl j4_s0), some (.inl ((p1 / 2) % 3)), some (.inl l63_4), some (.inl l63_5), some (.inl l63_6), some (.inl l63_7), some (.inl l63_8), none, none]) (st' := [.inl l63_6, .inl l63_7, .inr (.inr (some 79))]) (w' := (SH, dt)) rfl ?_
              refine go_callq PM235 PM234 (Q' := _) rfl rfl rfl rfl (sp_X6_isRare L xs sio (d + 0) dt hI  l63_7 (by first | exact bnd i287 (by decide) (by decide) | exact ⟨by fail, by fail⟩) l63_6 (by first | exact bnd i286 (by decide) (by decide) | exact ⟨by (have z0_ := unhid c339; have z1_ := unhid c340; omega), by omega⟩) ) ?_
              rintro _ _ ⟨dt342, rfl, hI343, hF344, h341⟩
              refine ⟨rfl, ?_⟩
              have hF345 : Fr [104] dt dt342 := Fr_tr hF hF344 (by decide)
              rcases h341 with ⟨rfl, h341⟩ | ⟨rfl, h341⟩
              · skip
                refine go_toq PM235 (k := 3) (pc' := 290) (L' := [some (.inr (.inr (some 79))), some (.inl p1), some (.inl j4_s0), some (.inl ((p1 / 2) % 3)), some (.inl l63_4), some (.inl l63_5), some (.inl l63_6), some (.inl l63_7), some (.inl l63_8), none, none]) (st' := [.inl 1]) (w' := (SH, dt342)) rfl ?_
                exact GO.le (j338 dt342 hI343 hF345) ⟨.inl rfl, .inr ⟨rfl, trivial⟩, .inr ⟨rfl, trivial⟩, .inr ⟨rfl, trivial⟩, .inr ⟨rfl, trivial⟩, .inr ⟨rfl, trivial⟩, .inr ⟨rfl, trivial⟩, .inr ⟨rfl, trivial⟩, .inr ⟨rfl, trivial⟩, .inl rfl, .inl rfl, trivial⟩
              · skip
                refine go_toq PM235 (k := 2) (pc' := 290) (L' := [some (.inr (.inr (some 79))), some (.inl p1), some (.inl j4_s0), some (.inl ((p1 / 2) % 3)), some (.inl l63_4), some (.inl l63_5), some (.inl l63_6), some (.inl l63_7), some (.inl l63_8), none, none]) (st' := [.inl 0]) (w' := (SH, dt342)) rfl ?_
                exact GO.le (j337 dt342 hI343 hF345) ⟨.inl rfl, .inr ⟨rfl, trivial⟩, .inr ⟨rfl, trivial⟩, .inr ⟨rfl, trivial⟩, .inr ⟨rfl, trivial⟩, .inr ⟨rfl, trivial⟩, .inr ⟨rfl, trivial⟩, .inr ⟨rfl, trivial⟩, .inr ⟨rfl, trivial⟩, .inl rfl, .inl rfl, trivial⟩
          · skip
            have r347 := wr_RR ((l63_5 - l63_4) * 10)
            have r348 := wr_RR (l63_5 + l63_4)
            refine go_ifq PM235 (k := 8) (p1 := 265) (p2 := 261) (L' := [some (.inr (.inr (some 79))), some (.inl p1), some (.inl j4_s0), some (.inl ((p1 / 2) % 3)), some (.inl l63_4), some (.inl l63_5), some (.inl l63_6), some (.inl l63_7), some (.inl l63_8), none, none]) (st' := []) (w' := (SH, dt)) rfl (u_le (a := wr ((l63_5 - l63_4) * 10)) (b := wr (l63_5 + l63_4))) (fun c346 => ?_) (fun c346 => ?_)
            · skip
              refine go_toq PM235 (k := 2) (pc' := 290) (L' := [some (.inr (.inr (some 79))), some (.inl p1), some (.inl j4_s0), some (.inl ((p1 / 2) % 3)), some (.inl l63_4), some (.inl l63_5), some (.inl l63_6), some (.inl l63_7), some (.inl l63_8), none, none]) (st' := [.inl 0]) (w' := (SH, dt)) rfl ?_
              exact GO.le (j337 dt hI hF) ⟨.inl rfl, .inr ⟨rfl, trivial⟩, .inr ⟨rfl, trivial⟩, .inr ⟨rfl, trivial⟩, .inr ⟨rfl, trivial⟩, .inr ⟨rfl, trivial⟩, .inr ⟨rfl, trivial⟩, .inr ⟨rfl, trivial⟩, .inr ⟨rfl, trivial⟩, .inl rfl, .inl rfl, trivial⟩
            · skip
              refine go_toq PM235 (k := 2) (pc' := 290) (L' := [some (.inr (.inr (some 79))), some (.inl p1), some (.inl j4_s0), some (.inl ((p1 / 2) % 3)), some (.inl l63_4), some (.inl l63_5), some (.inl l63_6), some (.inl l63_7), some (.inl l63_8), none, none]) (st' := [.inl 1]) (w' := (SH, dt)) rfl ?_
              exact GO.le (j338 dt hI hF) ⟨.inl rfl, .inr ⟨rfl, trivial⟩, .inr ⟨rfl, trivial⟩, .inr ⟨rfl, trivial⟩, .inr ⟨rfl, trivial⟩, .inr ⟨rfl, trivial⟩, .inr ⟨rfl, trivial⟩, .inr ⟨rfl, trivial⟩, .inr ⟨rfl, trivial⟩, .inl rfl, .inl rfl, trivial⟩
        · skip
          refine go_toq PM235 (k := 7) (pc' := 86) (L' := [some (.inr (.inr (some 79))), some (.inl p1), some (.inl j4_s0), some (.inl ((p1 / 2) % 3)), some (.inl l63_4), some (.inl l63_5), some (.inl l63_6), some (.inl l63_7), some (.inl l63_8), none, none]) (st' := [.inl (7340 + (2 * l63_8)), .inr (.inr (some 80))]) (w' := (SH, dt)) rfl ?_
          have r349 : (-2147483648) ≤ dt 80 ((7340 + (2 * l63_8)).toNat) ∧ dt 80 ((7340 + (2 * l63_8)).toNat) ≤ 2147483647 := InvC_get hI 80 ((7340 + (2 * l63_8)).toNat) rfl rfl
          have r350 := MW_e hM (l63_8) ⟨by omega, by omega⟩
          refine go_smpq PM235 (L' := [some (.inr (.inr (some 79))), some (.inl p1), some (.inl j4_s0), some (.inl ((p1 / 2) % 3)), some (.inl l63_4), some (.inl l63_5), some (.inl l63_6), some (.inl l63_7), some (.inl l63_8), none, none]) (st' := [.inl (dt 80 ((7340 + (2 * l63_8)).toNat))]) (w' := (SH, dt)) rfl rfl (s_iald (n := 7460) (f := dt 80) rfl ⟨by omega, by omega⟩) ?_
          refine go_toq PM235 (k := 10) (pc' := 103) (L' := [some (.inr (.inr (some 79))), some (.inl p1), some (.inl j4_s0), some (.inl ((p1 / 2) % 3)), some (.inl l63_4), some (.inl l63_5), some (.inl l63_6), some (.inl l63_7), some (.inl l63_8), some (.inl (dt 80 ((7340 + (2 * l63_8)).toNat))), none]) (st' := [.inl ((7340 + (2 * l63_8)) + 1), .inr (.inr (some 80))]) (w' := (SH, dt)) rfl ?_
          have r351 : (-2147483648) ≤ dt 80 (((7340 + (2 * l63_8)) + 1).toNat) ∧ dt 80 (((7340 + (2 * l63_8)) + 1).toNat) ≤ 2147483647 := InvC_get hI 80 (((7340 + (2 * l63_8)) + 1).toNat) rfl rfl
          refine go_smpq PM235 (L' := [some (.inr (.inr (some 79))), some (.inl p1), some (.inl j4_s0), some (.inl ((p1 / 2) % 3)), some (.inl l63_4), some (.inl l63_5), some (.inl l63_6), some (.inl l63_7), some (.inl l63_8), some (.inl (dt 80 ((7340 + (2 * l63_8)).toNat))), none]) (st' := [.inl (dt 80 (((7340 + (2 * l63_8)) + 1).toNat))]) (w' := (SH, dt)) rfl rfl (s_iald (n := 7460) (f := dt 80) rfl ⟨by omega, by omega⟩) ?_
          have j379 : ∀ (j379_a4 : Int) (j379_a5 : Int) (j379_a6 : Int) (j379_a7 : Int) (i380 : 0 ≤ j379_a6 ∧ j379_a6 ≤ 41) (i381 : 0 ≤ j379_a7 ∧ j379_a7 ≤ 41) (i382 : l63_6 + 0 ≤ j379_a6 ∧ j379_a6 ≤ l63_6 + 1) (i383 : l63_7 + 0 ≤ j379_a7 ∧ j379_a7 ≤ l63_7 + 1), GO (am_XX L xs sio) (d + 1) 235 233 [some (.inr (.inr (some 79))), some (.inl p1), some (.inl j4_s0), some (.inl ((p1 / 2) % 3)), some (.inl j379_a4), some (.inl j379_a5), some (.inl j379_a6), some (.inl j379_a7), some (.inl l63_8), none, none] [] (SH, dt) (fun r w2 => ∃ dt2 : Nat → Nat → Int, w2 = (SH, dt2) ∧ InvC dt2 ∧ Fr [104] dt dt2 ∧ ((r = some (.inl 1) ∧ True) ∨ (r = some (.inl 0) ∧ True))) := by
            intro j379_a4 j379_a5 j379_a6 j379_a7 i380 i381 i382 i383
            refine go_toq PM235 (k := 2) (pc' := 63) (L' := [some (.inr (.inr (some 79))), some (.inl p1), some (.inl j4_s0), some (.inl ((p1 / 2) % 3)), some (.inl j379_a4), some (.inl j379_a5), some (.inl j379_a6), some (.inl j379_a7), some (.inl (l63_8 + 1)), none, none]) (st' := []) (w' := (SH, dt)) rfl ?_
            exact GO.le (ih_loop291 j379_a4 j379_a5 j379_a6 j379_a7 (l63_8 + 1) (by first | exact bnd i380 (by decide) (by decide) | omega) (by first | exact bnd i381 (by decide) (by decide) | omega) (by first | exact bndp i288 (by decide) (by decide) | exact bnde i288 c326 (by decide) (by decide) | omega) (by omega) (by omega) (by omega)) ⟨.inl rfl, .inl rfl, .inl rfl, .inl rfl, .inl rfl, .inl rfl, .inl rfl, .inl rfl, .inl rfl, .inl rfl, .inl rfl, trivial⟩
          refine go_ifq PM235 (k := 5) (p1 := 233) (p2 := 115) (L' := [some (.inr (.inr (some 79))), some (.inl p1), some (.inl j4_s0), some (.inl ((p1 / 2) % 3)), some (.inl l63_4), some (.inl l63_5), some (.inl l63_6), some (.inl l63_7), some (.inl l63_8), some (.inl (dt 80 ((7340 + (2 * l63_8)).toNat))), some (.inl (dt 80 (((7340 + (2 * l63_8)) + 1).toNat)))]) (st' := []) (w' := (SH, dt)) rfl (c_lt (a := (dt 80 ((7340 + (2 * l63_8)).toNat)) + (dt 80 (((7340 + (2 * l63_8)) + 1).toNat))) (b := j4_s0) ⟨by omega, by omega⟩ (by first | exact bnd i5 (by decide) (by decide) | exact ⟨by fail, by fail⟩)) (fun c384 => ?_) (fun c384 => ?_)
          · skip
            exact GO.le (j379 l63_4 l63_5 l63_6 l63_7 (by first | exact bnd i286 (by decide) (by decide) | fail) (by first | exact bnd i287 (by decide) (by decide) | fail) (by omega) (by omega)) ⟨.inl rfl, .inl rfl, .inl rfl, .inl rfl, .inl rfl, .inl rfl, .inl rfl, .inl rfl, .inl rfl, .inr ⟨rfl, trivial⟩, .inr ⟨rfl, trivial⟩, trivial⟩
          · skip
            refine go_ifq PM235 (k := 2) (p1 := 139) (p2 := 120) (L' := [some (.inr (.inr (some 79))), some (.inl p1), some (.inl j4_s0), some (.inl ((p1 / 2) % 3)), some (.inl l63_4), some (.inl l63_5), some (.inl l63_6), some (.inl l63_7), some (.inl l63_8), some (.inl (dt 80 ((7340 + (2 * l63_8)).toNat))), some (.inl (dt 80 (((7340 + (2 * l63_8)) + 1).toNat)))]) (st' := []) (w' := (SH, dt)) rfl (c_ne (a := (p1 / 2) % 3) (b := 2) ⟨by omega, by omega⟩ ⟨by decide, by decide⟩) (fun c385 => ?_) (fun c385 => ?_)
            · skip
              replace c385 := hid c385
              have j388 : ∀ (j388_s0 : Int) (i389 : 0 ≤ j388_s0 ∧ j388_s0 ≤ 9999), GO (am_XX L xs sio) (d + 1) 235 160 [some (.inr (.inr (some 79))), some (.inl p1), some (.inl j4_s0), some (.inl ((p1 / 2) % 3)), some (.inl l63_4), some (.inl l63_5), some (.inl l63_6), some (.inl l63_7), some (.inl l63_8), none, some (.inl (dt 80 (((7340 + (2 * l63_8)) + 1).toNat)))] [.inl j388_s0] (SH, dt) (fun r w2 => ∃ dt2 : Nat → Nat → Int, w2 = (SH, dt2) ∧ InvC dt2 ∧ Fr [104] dt dt2 ∧ ((r = some (.inl 1) ∧ True) ∨ (r = some (.inl 0) ∧ True))) := by
                intro j388_s0 i389
                have j392 : ∀ (j392_s0 : Int) (i393 : 0 ≤ j392_s0 ∧ j392_s0 ≤ 9999), GO (am_XX L xs sio) (d + 1) 235 183 [some (.inr (.inr (some 79))), some (.inl p1), some (.inl j4_s0), some (.inl ((p1 / 2) % 3)), some (.inl l63_4), some (.inl l63_5), some (.inl l63_6), some (.inl l63_7), some (.inl l63_8), some (.inl j388_s0), none] [.inl j392_s0] (SH, dt) (fun r w2 => ∃ dt2 : Nat → Nat → Int, w2 = (SH, dt2) ∧ InvC dt2 ∧ Fr [104] dt dt2 ∧ ((r = some (.inl 1) ∧ True) ∨ (r = some (.inl 0) ∧ True))) := by
                  intro j392_s0 i393
                  refine go_ifq PM235 (k := 12) (p1 := 212) (p2 := 208) (L' := [some (.inr (.inr (some 79))), some (.inl p1), some (.inl j4_s0), some (.inl ((p1 / 2) % 3)), some (.inl (l63_4 + j388_s0)), some (.inl (l63_5 + j392_s0)), some (.inl l63_6), some (.inl l63_7), some (.inl l63_8), some (.inl j388_s0), some (.inl j392_s0)]) (st' := [.inl l63_6]) (w' := (SH, dt)) rfl (c_eq (a := j388_s0) (b := j392_s0) (by first | exact bnd i389 (by decide) (by decide) | exact ⟨by fail, by fail⟩) (by first | exact bnd i393 (by decide) (by decide) | exact ⟨by fail, by fail⟩)) (fun c395 => ?_) (fun c395 => ?_)
                  · skip
                    refine go_ifq PM235 (k := 6) (p1 := 229) (p2 := 225) (L' := [some (.inr (.inr (some 79))), some (.inl p1), some (.inl j4_s0), some (.inl ((p1 / 2) % 3)), some (.inl (l63_4 + j388_s0)), some (.inl (l63_5 + j392_s0)), some (.inl (l63_6 + 0)), some (.inl l63_7), some (.inl l63_8), some (.inl j388_s0), some (.inl j392_s0)]) (st' := [.inl l63_7]) (w' := (SH, dt)) rfl (c_le (a := j392_s0) (b := j388_s0) (by first | exact bnd i393 (by decide) (by decide) | exact ⟨by fail, by fail⟩) (by first | exact bnd i389 (by decide) (by decide) | exact ⟨by fail, by fail⟩)) (fun c397 => ?_) (fun c397 => ?_)
                    · skip
                      refine go_toq PM235 (k := 3) (pc' := 233) (L' := [some (.inr (.inr (some 79))), some (.inl p1), some (.inl j4_s0), some (.inl ((p1 / 2) % 3)), some (.inl (l63_4 + j388_s0)), some (.inl (l63_5 + j392_s0)), some (.inl (l63_6 + 0)), some (.inl (l63_7 + 0)), some (.inl l63_8), some (.inl j388_s0), some (.inl j392_s0)]) (st' := []) (w' := (SH, dt)) rfl ?_
                      exact GO.le (j379 (l63_4 + j388_s0) (l63_5 + j392_s0) (l63_6 + 0) (l63_7 + 0) (by first | exact bndp i286 (by decide) (by decide) | fail) (by first | exact bndp i287 (by decide) (by decide) | fail) (by omega) (by omega)) ⟨.inl rfl, .inl rfl, .inl rfl, .inl rfl, .inl rfl, .inl rfl, .inl rfl, .inl rfl, .inl rfl, .inr ⟨rfl, trivial⟩, .inr ⟨rfl, trivial⟩, trivial⟩
                    · skip
                      refine go_toq PM235 (k := 4) (pc' := 233) (L' := [some (.inr (.inr (some 79))), some (.inl p1), some (.inl j4_s0), some (.inl ((p1 / 2) % 3)), some (.inl (l63_4 + j388_s0)), some (.inl (l63_5 + j392_s0)), some (.inl (l63_6 + 0)), some (.inl (l63_7 + 1)), some (.inl l63_8), some (.inl j388_s0), some (.inl j392_s0)]) (st' := []) (w' := (SH, dt)) rfl ?_
                      exact GO.le (j379 (l63_4 + j388_s0) (l63_5 + j392_s0) (l63_6 + 0) (l63_7 + 1) (by first | exact bndp i286 (by decide) (by decide) | fail) (by first | exact bndp i287 (by decide) (by decide) | fail) (by omega) (by omega)) ⟨.inl rfl, .inl rfl, .inl rfl, .inl rfl, .inl rfl, .inl rfl, .inl rfl, .inl rfl, .inl rfl, .inr ⟨rfl, trivial⟩, .inr ⟨rfl, trivial⟩, trivial⟩
                  · skip
                    replace c395 := hid c395
                    refine go_ifq PM235 (k := 7) (p1 := 229) (p2 := 225) (L' := [some (.inr (.inr (some 79))), some (.inl p1), some (.inl j4_s0), some (.inl ((p1 / 2) % 3)), some (.inl (l63_4 + j388_s0)), some (.inl (l63_5 + j392_s0)), some (.inl (l63_6 + 1)), some (.inl l63_7), some (.inl l63_8), some (.inl j388_s0), some (.inl j392_s0)]) (st' := [.inl l63_7]) (w' := (SH, dt)) rfl (c_le (a := j392_s0) (b := j388_s0) (by first | exact bnd i393 (by decide) (by decide) | exact ⟨by fail, by fail⟩) (by first | exact bnd i389 (by decide) (by decide) | exact ⟨by fail, by fail⟩)) (fun c399 => ?_) (fun c399 => ?_)
                    · skip
                      refine go_toq PM235 (k := 3) (pc' := 233) (L' := [some (.inr (.inr (some 79))), some (.inl p1), some (.inl j4_s0), some (.inl ((p1 / 2) % 3)), some (.inl (l63_4 + j388_s0)), some (.inl (l63_5 + j392_s0)), some (.inl (l63_6 + 1)), some (.inl (l63_7 + 0)), some (.inl l63_8), some (.inl j388_s0), some (.inl j392_s0)]) (st' := []) (w' := (SH, dt)) rfl ?_
                      exact GO.le (j379 (l63_4 + j388_s0) (l63_5 + j392_s0) (l63_6 + 1) (l63_7 + 0) (by first | exact bndp i286 (by decide) (by decide) | fail) (by first | exact bndp i287 (by decide) (by decide) | fail) (by omega) (by omega)) ⟨.inl rfl, .inl rfl, .inl rfl, .inl rfl, .inl rfl, .inl rfl, .inl rfl, .inl rfl, .inl rfl, .inr ⟨rfl, trivial⟩, .inr ⟨rfl, trivial⟩, trivial⟩
                    · skip
                      refine go_toq PM235 (k := 4) (pc' := 233) (L' := [some (.inr (.inr (some 79))), some (.inl p1), some (.inl j4_s0), some (.inl ((p1 / 2) % 3)), some (.inl (l63_4 + j388_s0)), some (.inl (l63_5 + j392_s0)), some (.inl (l63_6 + 1)), some (.inl (l63_7 + 1)), some (.inl l63_8), some (.inl j388_s0), some (.inl j392_s0)]) (st' := []) (w' := (SH, dt)) rfl ?_
                      exact GO.le (j379 (l63_4 + j388_s0) (l63_5 + j392_s0) (l63_6 + 1) (l63_7 + 1) (by first | exact bndp i286 (by decide) (by decide) | fail) (by first | exact bndp i287 (by decide) (by decide) | fail) (by omega) (by omega)) ⟨.inl rfl, .inl rfl, .inl rfl, .inl rfl, .inl rfl, .inl rfl, .inl rfl, .inl rfl, .inl rfl, .inr ⟨rfl, trivial⟩, .inr ⟨rfl, trivial⟩, trivial⟩
                refine go_ifq PM235 (k := 3) (p1 := 181) (p2 := 167) (L' := [some (.inr (.inr (some 79))), some (.inl p1), some (.inl j4_s0), some (.inl ((p1 / 2) % 3)), some (.inl l63_4), some (.inl l63_5), some (.inl l63_6), some (.inl l63_7), some (.inl l63_8), some (.inl j388_s0), some (.inl (dt 80 (((7340 + (2 * l63_8)) + 1).toNat)))]) (st' := []) (w' := (SH, dt)) rfl (c_ne (a := (p1 / 2) % 3) (b := 1) ⟨by omega, by omega⟩ ⟨by decide, by decide⟩) (fun c400 => ?_) (fun c400 => ?_)
                · skip
                  replace c400 := hid c400
                  refine go_toq PM235 (k := 1) (pc' := 183) (L' := [some (.inr (.inr (some 79))), some (.inl p1), some (.inl j4_s0), some (.inl ((p1 / 2) % 3)), some (.inl l63_4), some (.inl l63_5), some (.inl l63_6), some (.inl l63_7), some (.inl l63_8), some (.inl j388_s0), some (.inl (dt 80 (((7340 + (2 * l63_8)) + 1).toNat)))]) (st' := [.inl (dt 80 (((7340 + (2 * l63_8)) + 1).toNat))]) (w' := (SH, dt)) rfl ?_
                  exact GO.le (j392 (dt 80 (((7340 + (2 * l63_8)) + 1).toNat)) (by first | exact bnd r351 (by decide) (by decide) | omega)) ⟨.inl rfl, .inl rfl, .inl rfl, .inl rfl, .inl rfl, .inl rfl, .inl rfl, .inl rfl, .inl rfl, .inl rfl, .inr ⟨rfl, trivial⟩, trivial⟩
                · skip
                  refine go_ifq PM235 (k := 2) (p1 := 181) (p2 := 175) (L' := [some (.inr (.inr (some 79))), some (.inl p1), some (.inl j4_s0), some (.inl ((p1 / 2) % 3)), some (.inl l63_4), some (.inl l63_5), some (.inl l63_6), some (.inl l63_7), some (.inl l63_8), some (.inl j388_s0), some (.inl (dt 80 (((7340 + (2 * l63_8)) + 1).toNat)))]) (st' := []) (w' := (SH, dt)) rfl (c_le (a := dt 80 (((7340 + (2 * l63_8)) + 1).toNat)) (b := 3000) (by first | exact bnd r351 (by decide) (by decide) | exact ⟨by fail, by fail⟩) ⟨by decide, by decide⟩) (fun c401 => ?_) (fun c401 => ?_)
                  · skip
                    refine go_toq PM235 (k := 1) (pc' := 183) (L' := [some (.inr (.inr (some 79))), some (.inl p1), some (.inl j4_s0), some (.inl ((p1 / 2) % 3)), some (.inl l63_4), some (.inl l63_5), some (.inl l63_6), some (.inl l63_7), some (.inl l63_8), some (.inl j388_s0), some (.inl (dt 80 (((7340 + (2 * l63_8)) + 1).toNat)))]) (st' := [.inl (dt 80 (((7340 + (2 * l63_8)) + 1).toNat))]) (w' := (SH, dt)) rfl ?_
                    exact GO.le (j392 (dt 80 (((7340 + (2 * l63_8)) + 1).toNat)) (by first | exact bnd r351 (by decide) (by decide) | omega)) ⟨.inl rfl, .inl rfl, .inl rfl, .inl rfl, .inl rfl, .inl rfl, .inl rfl, .inl rfl, .inl rfl, .inl rfl, .inr ⟨rfl, trivial⟩, trivial⟩
                  · skip
                    refine go_ifq PM235 (k := 14) (p1 := 212) (p2 := 208) (L' := [some (.inr (.inr (some 79))), some (.inl p1), some (.inl j4_s0), some (.inl ((p1 / 2) % 3)), some (.inl (l63_4 + j388_s0)), some (.inl (l63_5 + 3000)), some (.inl l63_6), some (.inl l63_7), some (.inl l63_8), some (.inl j388_s0), some (.inl 3000)]) (st' := [.inl l63_6]) (w' := (SH, dt)) rfl (c_eq (a := j388_s0) (b := 3000) (by first | exact bnd i389 (by decide) (by decide) | exact ⟨by fail, by fail⟩) ⟨by decide, by decide⟩) (fun c403 => ?_) (fun c403 => ?_)
                    · skip
                      refine go_ifq PM235 (k := 6) (p1 := 229) (p2 := 225) (L' := [some (.inr (.inr (some 79))), some (.inl p1), some (.inl j4_s0), some (.inl ((p1 / 2) % 3)), some (.inl (l63_4 + j388_s0)), some (.inl (l63_5 + 3000)), some (.inl (l63_6 + 0)), some (.inl l63_7), some (.inl l63_8), some (.inl j388_s0), some (.inl 3000)]) (st' := [.inl l63_7]) (w' := (SH, dt)) rfl (c_le (a := 3000) (b := j388_s0) ⟨by decide, by decide⟩ (by first | exact bnd i389 (by decide) (by decide) | exact ⟨by fail, by fail⟩)) (fun c405 => ?_) (fun c405 => ?_)
                      · skip
                        refine go_toq PM235 (k := 3) (pc' := 233) (L' := [some (.inr (.inr (some 79))), some (.inl p1), some (.inl j4_s0), some (.inl ((p1 / 2) % 3)), some (.inl (l63_4 + j388_s0)), some (.inl (l63_5 + 3000)), some (.inl (l63_6 + 0)), some (.inl (l63_7 + 0)), some (.inl l63_8), some (.inl j388_s0), some (.inl 3000)]) (st' := []) (w' := (SH, dt)) rfl ?_
                        exact GO.le (j379 (l63_4 + j388_s0) (l63_5 + 3000) (l63_6 + 0) (l63_7 + 0) (by first | exact bndp i286 (by decide) (by decide) | fail) (by first | exact bndp i287 (by decide) (by decide) | fail) (by omega) (by omega)) ⟨.inl rfl, .inl rfl, .inl rfl, .inl rfl, .inl rfl, .inl rfl, .inl rfl, .inl rfl, .inl rfl, .inr ⟨rfl, trivial⟩, .inr ⟨rfl, trivial⟩, trivial⟩
                      · exfalso; omega
                    · skip
                      replace c403 := hid c403
                      refine go_ifq PM235 (k := 7) (p1 := 229) (p2 := 225) (L' := [some (.inr (.inr (some 79))), some (.inl p1), some (.inl j4_s0), some (.inl ((p1 / 2) % 3)), some (.inl (l63_4 + j388_s0)), some (.inl (l63_5 + 3000)), some (.inl (l63_6 + 1)), some (.inl l63_7), some (.inl l63_8), some (.inl j388_s0), some (.inl 3000)]) (st' := [.inl l63_7]) (w' := (SH, dt)) rfl (c_le (a := 3000) (b := j388_s0) ⟨by decide, by decide⟩ (by first | exact bnd i389 (by decide) (by decide) | exact ⟨by fail, by fail⟩)) (fun c407 => ?_) (fun c407 => ?_)
                      · skip
                        refine go_toq PM235 (k := 3) (pc' := 233) (L' := [some (.inr (.inr (some 79))), some (.inl p1), some (.inl j4_s0), some (.inl ((p1 / 2) % 3)), some (.inl (l63_4 + j388_s0)), some (.inl (l63_5 + 3000)), some (.inl (l63_6 + 1)), some (.inl (l63_7 + 0)), some (.inl l63_8), some (.inl j388_s0), some (.inl 3000)]) (st' := []) (w' := (SH, dt)) rfl ?_
                        exact GO.le (j379 (l63_4 + j388_s0) (l63_5 + 3000) (l63_6 + 1) (l63_7 + 0) (by first | exact bndp i286 (by decide) (by decide) | fail) (by first | exact bndp i287 (by decide) (by decide) | fail) (by omega) (by omega)) ⟨.inl rfl, .inl rfl, .inl rfl, .inl rfl, .inl rfl, .inl rfl, .inl rfl, .inl rfl, .inl rfl, .inr ⟨rfl, trivial⟩, .inr ⟨rfl, trivial⟩, trivial⟩
                      · skip
                        refine go_toq PM235 (k := 4) (pc' := 233) (L' := [some (.inr (.inr (some 79))), some (.inl p1), some (.inl j4_s0), some (.inl ((p1 / 2) % 3)), some (.inl (l63_4 + j388_s0)), some (.inl (l63_5 + 3000)), some (.inl (l63_6 + 1)), some (.inl (l63_7 + 1)), some (.inl l63_8), some (.inl j388_s0), some (.inl 3000)]) (st' := []) (w' := (SH, dt)) rfl ?_
                        exact GO.le (j379 (l63_4 + j388_s0) (l63_5 + 3000) (l63_6 + 1) (l63_7 + 1) (by first | exact bndp i286 (by decide) (by decide) | fail) (by first | exact bndp i287 (by decide) (by decide) | fail) (by omega) (by omega)) ⟨.inl rfl, .inl rfl, .inl rfl, .inl rfl, .inl rfl, .inl rfl, .inl rfl, .inl rfl, .inl rfl, .inr ⟨rfl, trivial⟩, .inr ⟨rfl, trivial⟩, trivial⟩
              refine go_ifq PM235 (k := 2) (p1 := 158) (p2 := 144) (L' := [some (.inr (.inr (some 79))), some (.inl p1), some (.inl j4_s0), some (.inl ((p1 / 2) % 3)), some (.inl l63_4), some (.inl l63_5), some (.inl l63_6), some (.inl l63_7), some (.inl l63_8), some (.inl (dt 80 ((7340 + (2 * l63_8)).toNat))), some (.inl (dt 80 (((7340 + (2 * l63_8)) + 1).toNat)))]) (st' := []) (w' := (SH, dt)) rfl (c_ne (a := (p1 / 2) % 3) (b := 1) ⟨by omega, by omega⟩ ⟨by decide, by decide⟩) (fun c408 => ?_) (fun c408 => ?_)
              · skip
                replace c408 := hid c408
                refine go_toq PM235 (k := 1) (pc' := 160) (L' := [some (.inr (.inr (some 79))), some (.inl p1), some (.inl j4_s0), some (.inl ((p1 / 2) % 3)), some (.inl l63_4), some (.inl l63_5), some (.inl l63_6), some (.inl l63_7), some (.inl l63_8), some (.inl (dt 80 ((7340 + (2 * l63_8)).toNat))), some (.inl (dt 80 (((7340 + (2 * l63_8)) + 1).toNat)))]) (st' := [.inl (dt 80 ((7340 + (2 * l63_8)).toNat))]) (w' := (SH, dt)) rfl ?_
                exact GO.le (j388 (dt 80 ((7340 + (2 * l63_8)).toNat)) (by first | exact bnd r349 (by decide) (by decide) | omega)) ⟨.inl rfl, .inl rfl, .inl rfl, .inl rfl, .inl rfl, .inl rfl, .inl rfl, .inl rfl, .inl rfl, .inr ⟨rfl, trivial⟩, .inl rfl, trivial⟩
              · skip
                refine go_ifq PM235 (k := 2) (p1 := 158) (p2 := 152) (L' := [some (.inr (.inr (some 79))), some (.inl p1), some (.inl j4_s0), some (.inl ((p1 / 2) % 3)), some (.inl l63_4), some (.inl l63_5), some (.inl l63_6), some (.inl l63_7), some (.inl l63_8), some (.inl (dt 80 ((7340 + (2 * l63_8)).toNat))), some (.inl (dt 80 (((7340 + (2 * l63_8)) + 1).toNat)))]) (st' := []) (w' := (SH, dt)) rfl (c_le (a := dt 80 ((7340 + (2 * l63_8)).toNat)) (b := 3000) (by first | exact bnd r349 (by decide) (by decide) | exact ⟨by fail, by fail⟩) ⟨by decide, by decide⟩) (fun c409 => ?_) (fun c409 => ?_)
                · skip
                  refine go_toq PM235 (k := 1) (pc' := 160) (L' := [some (.inr (.inr (some 79))), some (.inl p1), some (.inl j4_s0), some (.inl ((p1 / 2) % 3)), some (.inl l63_4), some (.inl l63_5), some (.inl l63_6), some (.inl l63_7), some (.inl l63_8), some (.inl (dt 80 ((7340 + (2 * l63_8)).toNat))), some (.inl (dt 80 (((7340 + (2 * l63_8)) + 1).toNat)))]) (st' := [.inl (dt 80 ((7340 + (2 * l63_8)).toNat))]) (w' := (SH, dt)) rfl ?_
                  exact GO.le (j388 (dt 80 ((7340 + (2 * l63_8)).toNat)) (by first | exact bnd r349 (by decide) (by decide) | omega)) ⟨.inl rfl, .inl rfl, .inl rfl, .inl rfl, .inl rfl, .inl rfl, .inl rfl, .inl rfl, .inl rfl, .inr ⟨rfl, trivial⟩, .inl rfl, trivial⟩
                · skip
                  have j412 : ∀ (j412_s0 : Int) (i413 : 0 ≤ j412_s0 ∧ j412_s0 ≤ 9999), GO (am_XX L xs sio) (d + 1) 235 183 [some (.inr (.inr (some 79))), some (.inl p1), some (.inl j4_s0), some (.inl ((p1 / 2) % 3)), some (.inl l63_4), some (.inl l63_5), some (.inl l63_6), some (.inl l63_7), some (.inl l63_8), some (.inl 3000), none] [.inl j412_s0] (SH, dt) (fun r w2 => ∃ dt2 : Nat → Nat → Int, w2 = (SH, dt2) ∧ InvC dt2 ∧ Fr [104] dt dt2 ∧ ((r = some (.inl 1) ∧ True) ∨ (r = some (.inl 0) ∧ True))) := by
                    intro j412_s0 i413
                    refine go_ifq PM235 (k := 12) (p1 := 212) (p2 := 208) (L' := [some (.inr (.inr (some 79))), some (.inl p1), some (.inl j4_s0), some (.inl ((p1 / 2) % 3)), some (.inl (l63_4 + 3000)), some (.inl (l63_5 + j412_s0)), some (.inl l63_6), some (.inl l63_7), some (.inl l63_8), some (.inl 3000), some (.inl j412_s0)]) (st' := [.inl l63_6]) (w' := (SH, dt)) rfl (c_eq (a := 3000) (b := j412_s0) ⟨by decide, by decide⟩ (by first | exact bnd i413 (by decide) (by decide) | exact ⟨by fail, by fail⟩)) (fun c415 => ?_) (fun c415 => ?_)
                    · skip
                      refine go_ifq PM235 (k := 6) (p1 := 229) (p2 := 225) (L' := [some (.inr (.inr (some 79))), some (.inl p1), some (.inl j4_s0), some (.inl ((p1 / 2) % 3)), some (.inl (l63_4 + 3000)), some (.inl (l63_5 + j412_s0)), some (.inl (l63_6 + 0)), some (.inl l63_7), some (.inl l63_8), some (.inl 3000), some (.inl j412_s0)]) (st' := [.inl l63_7]) (w' := (SH, dt)) rfl (c_le (a := j412_s0) (b := 3000) (by first | exact bnd i413 (by decide) (by decide) | exact ⟨by fail, by fail⟩) ⟨by decide, by decide⟩) (fun c417 => ?_) (fun c417 => ?_)
                      · skip
                        refine go_toq PM235 (k := 3) (pc' := 233) (L' := [some (.inr (.inr (some 79))), some (.inl p1), some (.inl j4_s0), some (.inl ((p1 / 2) % 3)), some (.inl (l63_4 + 3000)), some (.inl (l63_5 + j412_s0)), some (.inl (l63_6 + 0)), some (.inl (l63_7 + 0)), some (.inl l63_8), some (.inl 3000), some (.inl j412_s0)]) (st' := []) (w' := (SH, dt)) rfl ?_
                        exact GO.le (j379 (l63_4 + 3000) (l63_5 + j412_s0) (l63_6 + 0) (l63_7 + 0) (by first | exact bndp i286 (by decide) (by decide) | fail) (by first | exact bndp i287 (by decide) (by decide) | fail) (by omega) (by omega)) ⟨.inl rfl, .inl rfl, .inl rfl, .inl rfl, .inl rfl, .inl rfl, .inl rfl, .inl rfl, .inl rfl, .inr ⟨rfl, trivial⟩, .inr ⟨rfl, trivial⟩, trivial⟩
                      · exfalso; omega
                    · skip
                      replace c415 := hid c415
                      refine go_ifq PM235 (k := 7) (p1 := 229) (p2 := 225) (L' := [some (.inr (.inr (some 79))), some (.inl p1), some (.inl j4_s0), some (.inl ((p1 / 2) % 3)), some (.inl (l63_4 + 3000)), some (.inl (l63_5 + j412_s0)), some (.inl (l63_6 + 1)), some (.inl l63_7), some (.inl l63_8), some (.inl 3000), some (.inl j412_s0)]) (st' := [.inl l63_7]) (w' := (SH, dt)) rfl (c_le (a := j412_s0) (b := 3000) (by first | exact bnd i413 (by decide) (by decide) | exact ⟨by fail, by fail⟩) ⟨by decide, by decide⟩) (fun c419 => ?_) (fun c419 => ?_)
                      · skip
                        refine go_toq PM235 (k := 3) (pc' := 233) (L' := [some (.inr (.inr (some 79))), some (.inl p1), some (.inl j4_s0), some (.inl ((p1 / 2) % 3)), some (.inl (l63_4 + 3000)), some (.inl (l63_5 + j412_s0)), some (.inl (l63_6 + 1)), some (.inl (l63_7 + 0)), some (.inl l63_8), some (.inl 3000), some (.inl j412_s0)]) (st' := []) (w' := (SH, dt)) rfl ?_
                        exact GO.le (j379 (l63_4 + 3000) (l63_5 + j412_s0) (l63_6 + 1) (l63_7 + 0) (by first | exact bndp i286 (by decide) (by decide) | fail) (by first | exact bndp i287 (by decide) (by decide) | fail) (by omega) (by omega)) ⟨.inl rfl, .inl rfl, .inl rfl, .inl rfl, .inl rfl, .inl rfl, .inl rfl, .inl rfl, .inl rfl, .inr ⟨rfl, trivial⟩, .inr ⟨rfl, trivial⟩, trivial⟩
                      · skip
                        refine go_toq PM235 (k := 4) (pc' := 233) (L' := [some (.inr (.inr (some 79))), some (.inl p1), some (.inl j4_s0), some (.inl ((p1 / 2) % 3)), some (.inl (l63_4 + 3000)), some (.inl (l63_5 + j412_s0)), some (.inl (l63_6 + 1)), some (.inl (l63_7 + 1)), some (.inl l63_8), some (.inl 3000), some (.inl j412_s0)]) (st' := []) (w' := (SH, dt)) rfl ?_
                        exact GO.le (j379 (l63_4 + 3000) (l63_5 + j412_s0) (l63_6 + 1) (l63_7 + 1) (by first | exact bndp i286 (by decide) (by decide) | fail) (by first | exact bndp i287 (by decide) (by decide) | fail) (by omega) (by omega)) ⟨.inl rfl, .inl rfl, .inl rfl, .inl rfl, .inl rfl, .inl rfl, .inl rfl, .inl rfl, .inl rfl, .inr ⟨rfl, trivial⟩, .inr ⟨rfl, trivial⟩, trivial⟩
                  refine go_ifq PM235 (k := 5) (p1 := 181) (p2 := 167) (L' := [some (.inr (.inr (some 79))), some (.inl p1), some (.inl j4_s0), some (.inl ((p1 / 2) % 3)), some (.inl l63_4), some (.inl l63_5), some (.inl l63_6), some (.inl l63_7), some (.inl l63_8), some (.inl 3000), some (.inl (dt 80 (((7340 + (2 * l63_8)) + 1).toNat)))]) (st' := []) (w' := (SH, dt)) rfl (c_ne (a := (p1 / 2) % 3) (b := 1) ⟨by omega, by omega⟩ ⟨by decide, by decide⟩) (fun c420 => ?_) (fun c420 => ?_)
                  · skip
                    replace c420 := hid c420
                    refine go_toq PM235 (k := 1) (pc' := 183) (L' := [some (.inr (.inr (some 79))), some (.inl p1), some (.inl j4_s0), some (.inl ((p1 / 2) % 3)), some (.inl l63_4), some (.inl l63_5), some (.inl l63_6), some (.inl l63_7), some (.inl l63_8), some (.inl 3000), some (.inl (dt 80 (((7340 + (2 * l63_8)) + 1).toNat)))]) (st' := [.inl (dt 80 (((7340 + (2 * l63_8)) + 1).toNat))]) (w' := (SH, dt)) rfl ?_
                    exact GO.le (j412 (dt 80 (((7340 + (2 * l63_8)) + 1).toNat)) (by first | exact bnd r351 (by decide) (by decide) | omega)) ⟨.inl rfl, .inl rfl, .inl rfl, .inl rfl, .inl rfl, .inl rfl, .inl rfl, .inl rfl, .inl rfl, .inl rfl, .inr ⟨rfl, trivial⟩, trivial⟩
                  · skip
                    refine go_ifq PM235 (k := 2) (p1 := 181) (p2 := 175) (L' := [some (.inr (.inr (some 79))), some (.inl p1), some (.inl j4_s0), some (.inl ((p1 / 2) % 3)), some (.inl l63_4), some (.inl l63_5), some (.inl l63_6), some (.inl l63_7), some (.inl l63_8), some (.inl 3000), some (.inl (dt 80 (((7340 + (2 * l63_8)) + 1).toNat)))]) (st' := []) (w' := (SH, dt)) rfl (c_le (a := dt 80 (((7340 + (2 * l63_8)) + 1).toNat)) (b := 3000) (by first | exact bnd r351 (by decide) (by decide) | exact ⟨by fail, by fail⟩) ⟨by decide, by decide⟩) (fun c421 => ?_) (fun c421 => ?_)
                    · skip
                      refine go_toq PM235 (k := 1) (pc' := 183) (L' := [some (.inr (.inr (some 79))), some (.inl p1), some (.inl j4_s0), some (.inl ((p1 / 2) % 3)), some (.inl l63_4), some (.inl l63_5), some (.inl l63_6), some (.inl l63_7), some (.inl l63_8), some (.inl 3000), some (.inl (dt 80 (((7340 + (2 * l63_8)) + 1).toNat)))]) (st' := [.inl (dt 80 (((7340 + (2 * l63_8)) + 1).toNat))]) (w' := (SH, dt)) rfl ?_
                      exact GO.le (j412 (dt 80 (((7340 + (2 * l63_8)) + 1).toNat)) (by first | exact bnd r351 (by decide) (by decide) | omega)) ⟨.inl rfl, .inl rfl, .inl rfl, .inl rfl, .inl rfl, .inl rfl, .inl rfl, .inl rfl, .inl rfl, .inl rfl, .inr ⟨rfl, trivial⟩, trivial⟩
                    · skip
                      refine go_toq PM235 (k := 25) (pc' := 233) (L' := [some (.inr (.inr (some 79))), some (.inl p1), some (.inl j4_s0), some (.inl ((p1 / 2) % 3)), some (.inl (l63_4 + 3000)), some (.inl (l63_5 + 3000)), some (.inl (l63_6 + 0)), some (.inl (l63_7 + 0)), some (.inl l63_8), some (.inl 3000), some (.inl 3000)]) (st' := []) (w' := (SH, dt)) rfl ?_
                      exact GO.le (j379 (l63_4 + 3000) (l63_5 + 3000) (l63_6 + 0) (l63_7 + 0) (by first | exact bndp i286 (by decide) (by decide) | fail) (by first | exact bndp i287 (by decide) (by decide) | fail) (by omega) (by omega)) ⟨.inl rfl, .inl rfl, .inl rfl, .inl rfl, .inl rfl, .inl rfl, .inl rfl, .inl rfl, .inl rfl, .inr ⟨rfl, trivial⟩, .inr ⟨rfl, trivial⟩, trivial⟩
            · skip
              refine go_ifq PM235 (k := 2) (p1 := 233) (p2 := 128) (L' := [some (.inr (.inr (some 79))), some (.inl p1), some (.inl j4_s0), some (.inl ((p1 / 2) % 3)), some (.inl l63_4), some (.inl l63_5), some (.inl l63_6), some (.inl l63_7), some (.inl l63_8), some (.inl (dt 80 ((7340 + (2 * l63_8)).toNat))), some (.inl (dt 80 (((7340 + (2 * l63_8)) + 1).toNat)))]) (st' := []) (w' := (SH, dt)) rfl (c_gt (a := dt 80 ((7340 + (2 * l63_8)).toNat)) (b := 3000) (by first | exact bnd r349 (by decide) (by decide) | exact ⟨by fail, by fail⟩) ⟨by decide, by decide⟩) (fun c422 => ?_) (fun c422 => ?_)
              · skip
                exact GO.le (j379 l63_4 l63_5 l63_6 l63_7 (by first | exact bnd i286 (by decide) (by decide) | fail) (by first | exact bnd i287 (by decide) (by decide) | fail) (by omega) (by omega)) ⟨.inl rfl, .inl rfl, .inl rfl, .inl rfl, .inl rfl, .inl rfl, .inl rfl, .inl rfl, .inl rfl, .inr ⟨rfl, trivial⟩, .inr ⟨rfl, trivial⟩, trivial⟩
              · skip
                refine go_ifq PM235 (k := 2) (p1 := 139) (p2 := 136) (L' := [some (.inr (.inr (some 79))), some (.inl p1), some (.inl j4_s0), some (.inl ((p1 / 2) % 3)), some (.inl l63_4), some (.inl l63_5), some (.inl l63_6), some (.inl l63_7), some (.inl l63_8), some (.inl (dt 80 ((7340 + (2 * l63_8)).toNat))), some (.inl (dt 80 (((7340 + (2 * l63_8)) + 1).toNat)))]) (st' := []) (w' := (SH, dt)) rfl (c_le (a := dt 80 (((7340 + (2 * l63_8)) + 1).toNat)) (b := 3000) (by first | exact bnd r351 (by decide) (by decide) | exact ⟨by fail, by fail⟩) ⟨by decide, by decide⟩) (fun c423 => ?_) (fun c423 => ?_)
                · skip
                  refine go_ifq PM235 (k := 2) (p1 := 158) (p2 := 144) (L' := [some (.inr (.inr (some 79))), some (.inl p1), some (.inl j4_s0), some (.inl ((p1 / 2) % 3)), some (.inl l63_4), some (.inl l63_5), some (.inl l63_6), some (.inl l63_7), some (.inl l63_8), some (.inl (dt 80 ((7340 + (2 * l63_8)).toNat))), some (.inl (dt 80 (((7340 + (2 * l63_8)) + 1).toNat)))]) (st' := []) (w' := (SH, dt)) rfl (c_ne (a := (p1 / 2) % 3) (b := 1) ⟨by omega, by omega⟩ ⟨by decide, by decide⟩) (fun c425 => ?_) (fun c425 => ?_)
                  · skip
                    replace c425 := hid c425
                    refine go_ifq PM235 (k := 4) (p1 := 181) (p2 := 167) (L' := [some (.inr (.inr (some 79))), some (.inl p1), some (.inl j4_s0), some (.inl ((p1 / 2) % 3)), some (.inl l63_4), some (.inl l63_5), some (.inl l63_6), some (.inl l63_7), some (.inl l63_8), some (.inl (dt 80 ((7340 + (2 * l63_8)).toNat))), some (.inl (dt 80 (((7340 + (2 * l63_8)) + 1).toNat)))]) (st' := []) (w' := (SH, dt)) rfl (c_ne (a := (p1 / 2) % 3) (b := 1) ⟨by omega, by omega⟩ ⟨by decide, by decide⟩) (fun c427 => ?_) (fun c427 => ?_)
                    · skip
                      replace c427 := hid c427
                      refine go_ifq PM235 (k := 13) (p1 := 212) (p2 := 208) (L' := [some (.inr (.inr (some 79))), some (.inl p1), some (.inl j4_s0), some (.inl ((p1 / 2) % 3)), some (.inl (l63_4 + (dt 80 ((7340 + (2 * l63_8)).toNat)))), some (.inl (l63_5 + (dt 80 (((7340 + (2 * l63_8)) + 1).toNat)))), some (.inl l63_6), some (.inl l63_7), some (.inl l63_8), some (.inl (dt 80 ((7340 + (2 * l63_8)).toNat))), some (.inl (dt 80 (((7340 + (2 * l63_8)) + 1).toNat)))]) (st' := [.inl l63_6]) (w' := (SH, dt)) rfl (c_eq (a := dt 80 ((7340 + (2 * l63_8)).toNat)) (b := dt 80 (((7340 + (2 * l63_8)) + 1).toNat)) (by first | exact bnd r349 (by decide) (by decide) | exact ⟨by fail, by fail⟩) (by first | exact bnd r351 (by decide) (by decide) | exact ⟨by fail, by fail⟩)) (fun c429 => ?_) (fun c429 => ?_)
                      · skip
                        refine go_ifq PM235 (k := 6) (p1 := 229) (p2 := 225) (L' := [some (.inr (.inr (some 79))), some (.inl p1), some (.inl j4_s0), some (.inl ((p1 / 2) % 3)), some (.inl (l63_4 + (dt 80 ((7340 + (2 * l63_8)).toNat)))), some (.inl (l63_5 + (dt 80 (((7340 + (2 * l63_8)) + 1).toNat)))), some (.inl (l63_6 + 0)), some (.inl l63_7), some (.inl l63_8), some (.inl (dt 80 ((7340 + (2 * l63_8)).toNat))), some (.inl (dt 80 (((7340 + (2 * l63_8)) + 1).toNat)))]) (st' := [.inl l63_7]) (w' := (SH, dt)) rfl (c_le (a := dt 80 (((7340 + (2 * l63_8)) + 1).toNat)) (b := dt 80 ((7340 + (2 * l63_8)).toNat)) (by first | exact bnd r351 (by decide) (by decide) | exact ⟨by fail, by fail⟩) (by first | exact bnd r349 (by decide) (by decide) | exact ⟨by fail, by fail⟩)) (fun c431 => ?_) (fun c431 => ?_)
                        · skip
                          refine go_toq PM235 (k := 3) (pc' := 233) (L' := [some (.inr (.inr (some 79))), some (.inl p1), some (.inl j4_s0), some (.inl ((p1 / 2) % 3)), some (.inl (l63_4 + (dt 80 ((7340 + (2 * l63_8)).toNat)))), some (.inl (l63_5 + (dt 80 (((7340 + (2 * l63_8)) + 1).toNat)))), some (.inl (l63_6 + 0)), some (.inl (l63_7 + 0)), some (.inl l63_8), some (.inl (dt 80 ((7340 + (2 * l63_8)).toNat))), some (.inl (dt 80 (((7340 + (2 * l63_8)) + 1).toNat)))]) (st' := []) (w' := (SH, dt)) rfl ?_
                          exact GO.le (j379 (l63_4 + (dt 80 ((7340 + (2 * l63_8)).toNat))) (l63_5 + (dt 80 (((7340 + (2 * l63_8)) + 1).toNat))) (l63_6 + 0) (l63_7 + 0) (by first | exact bndp i286 (by decide) (by decide) | fail) (by first | exact bndp i287 (by decide) (by decide) | fail) (by omega) (by omega)) ⟨.inl rfl, .inl rfl, .inl rfl, .inl rfl, .inl rfl, .inl rfl, .inl rfl, .inl rfl, .inl rfl, .inr ⟨rfl, trivial⟩, .inr ⟨rfl, trivial⟩, trivial⟩
                        · skip
                          refine go_toq PM235 (k := 4) (pc' := 233) (L' := [some (.inr (.inr (some 79))), some (.inl p1), some (.inl j4_s0), some (.inl ((p1 / 2) % 3)), some (.inl (l63_4 + (dt 80 ((7340 + (2 * l63_8)).toNat)))), some (.inl (l63_5 + (dt 80 (((7340 + (2 * l63_8)) + 1).toNat)))), some (.inl (l63_6 + 0)), some (.inl (l63_7 + 1)), some (.inl l63_8), some (.inl (dt 80 ((7340 + (2 * l63_8)).toNat))), some (.inl (dt 80 (((7340 + (2 * l63_8)) + 1).toNat)))]) (st' := []) (w' := (SH, dt)) rfl ?_
                          exact GO.le (j379 (l63_4 + (dt 80 ((7340 + (2 * l63_8)).toNat))) (l63_5 + (dt 80 (((7340 + (2 * l63_8)) + 1).toNat))) (l63_6 + 0) (l63_7 + 1) (by first | exact bndp i286 (by decide) (by decide) | fail) (by first | exact bndp i287 (by decide) (by decide) | fail) (by omega) (by omega)) ⟨.inl rfl, .inl rfl, .inl rfl, .inl rfl, .inl rfl, .inl rfl, .inl rfl, .inl rfl, .inl rfl, .inr ⟨rfl, trivial⟩, .inr ⟨rfl, trivial⟩, trivial⟩
                      · skip
                        replace c429 := hid c429
                        refine go_ifq PM235 (k := 7) (p1 := 229) (p2 := 225) (L' := [some (.inr (.inr (some 79))), some (.inl p1), some (.inl j4_s0), some (.inl ((p1 / 2) % 3)), some (.inl (l63_4 + (dt 80 ((7340 + (2 * l63_8)).toNat)))), some (.inl (l63_5 + (dt 80 (((7340 + (2 * l63_8)) + 1).toNat)))), some (.inl (l63_6 + 1)), some (.inl l63_7), some (.inl l63_8), some (.inl (dt 80 ((7340 + (2 * l63_8)).toNat))), some (.inl (dt 80 (((7340 + (2 * l63_8)) + 1).toNat)))]) (st' := [.inl l63_7]) (w' := (SH, dt)) rfl (c_le (a := dt 80 (((7340 + (2 * l63_8)) + 1).toNat)) (b := dt 80 ((7340 + (2 * l63_8)).toNat)) (by first | exact bnd r351 (by decide) (by decide) | exact ⟨by fail, by fail⟩) (by first | exact bnd r349 (by decide) (by decide) | exact ⟨by fail, by fail⟩)) (fun c433 => ?_) (fun c433 => ?_)
                        · skip
                          refine go_toq PM235 (k := 3) (pc' := 233) (L' := [some (.inr (.inr (some 79))), some (.inl p1), some (.inl j4_s0), some (.inl ((p1 / 2) % 3)), some (.inl (l63_4 + (dt 80 ((7340 + (2 * l63_8)).toNat)))), some (.inl (l63_5 + (dt 80 (((7340 + (2 * l63_8)) + 1).toNat)))), some (.inl (l63_6 + 1)), some (.inl (l63_7 + 0)), some (.inl l63_8), some (.inl (dt 80 ((7340 + (2 * l63_8)).toNat))), some (.inl (dt 80 (((7340 + (2 * l63_8)) + 1).toNat)))]) (st' := []) (w' := (SH, dt)) rfl ?_
                          exact GO.le (j379 (l63_4 + (dt 80 ((7340 + (2 * l63_8)).toNat))) (l63_5 + (dt 80 (((7340 + (2 * l63_8)) + 1).toNat))) (l63_6 + 1) (l63_7 + 0) (by first | exact bndp i286 (by decide) (by decide) | fail) (by first | exact bndp i287 (by decide) (by decide) | fail) (by omega) (by omega)) ⟨.inl rfl, .inl rfl, .inl rfl, .inl rfl, .inl rfl, .inl rfl, .inl rfl, .inl rfl, .inl rfl, .inr ⟨rfl, trivial⟩, .inr ⟨rfl, trivial⟩, trivial⟩
                        · skip
                          refine go_toq PM235 (k := 4) (pc' := 233) (L' := [some (.inr (.inr (some 79))), some (.inl p1), some (.inl j4_s0), some (.inl ((p1 / 2) % 3)), some (.inl (l63_4 + (dt 80 ((7340 + (2 * l63_8)).toNat)))), some (.inl (l63_5 + (dt 80 (((7340 + (2 * l63_8)) + 1).toNat)))), some (.inl (l63_6 + 1)), some (.inl (l63_7 + 1)), some (.inl l63_8), some (.inl (dt 80 ((7340 + (2 * l63_8)).toNat))), some (.inl (dt 80 (((7340 + (2 * l63_8)) + 1).toNat)))]) (st' := []) (w' := (SH, dt)) rfl ?_
                          exact GO.le (j379 (l63_4 + (dt 80 ((7340 + (2 * l63_8)).toNat))) (l63_5 + (dt 80 (((7340 + (2 * l63_8)) + 1).toNat))) (l63_6 + 1) (l63_7 + 1) (by first | exact bndp i286 (by decide) (by decide) | fail) (by first | exact bndp i287 (by decide) (by decide) | fail) (by omega) (by omega)) ⟨.inl rfl, .inl rfl, .inl rfl, .inl rfl, .inl rfl, .inl rfl, .inl rfl, .inl rfl, .inl rfl, .inr ⟨rfl, trivial⟩, .inr ⟨rfl, trivial⟩, trivial⟩
                    · exfalso; omega
                  · exfalso; omega
                · skip
                  refine go_toq PM235 (k := 1) (pc' := 233) (L' := [some (.inr (.inr (some 79))), some (.inl p1), some (.inl j4_s0), some (.inl ((p1 / 2) % 3)), some (.inl l63_4), some (.inl l63_5), some (.inl l63_6), some (.inl l63_7), some (.inl l63_8), some (.inl (dt 80 ((7340 + (2 * l63_8)).toNat))), some (.inl (dt 80 (((7340 + (2 * l63_8)) + 1).toNat)))]) (st' := []) (w' := (SH, dt)) rfl ?_
                  exact GO.le (j379 l63_4 l63_5 l63_6 l63_7 (by first | exact bnd i286 (by decide) (by decide) | fail) (by first | exact bnd i287 (by decide) (by decide) | fail) (by omega) (by omega)) ⟨.inl rfl, .inl rfl, .inl rfl, .inl rfl, .inl rfl, .inl rfl, .inl rfl, .inl rfl, .inl rfl, .inr ⟨rfl, trivial⟩, .inr ⟨rfl, trivial⟩, trivial⟩
    exact GO.le (loop291 _ 0 0 0 0 0 ⟨by decide, by decide⟩ ⟨by decide, by decide⟩ ⟨by decide, by decide⟩ (by omega) (by omega) (Nat.lt_succ_self _)) ⟨.inl rfl, .inl rfl, .inl rfl, .inl rfl, .inl rfl, .inl rfl, .inl rfl, .inl rfl, .inl rfl, .inl rfl, .inl rfl, trivial⟩
  refine go_ifq PM235 (k := 0) (p1 := 11) (p2 := 7) (L' := [some (.inr (.inr (some 79))), some (.inl p1), none, none, none, none, none, none, none, none, none]) (st' := []) (w' := (SH, dt)) rfl (z_ne (a := p1 / 6) ⟨by omega, by omega⟩) (fun c434 => ?_) (fun c434 => ?_)
  · skip
    replace c434 := hid c434
    refine go_toq PM235 (k := 2) (pc' := 14) (L' := [some (.inr (.inr (some 79))), some (.inl p1), none, none, none, none, none, none, none, none, none]) (st' := [.inl 6, .inl p1]) (w' := (SH, dt)) rfl ?_
    refine go_smpq PM235 (L' := [some (.inr (.inr (some 79))), some (.inl p1), none, none, none, none, none, none, none, none, none]) (st' := [.inl (p1 / 6)]) (w' := (SH, dt)) rfl rfl (s_idivc ⟨by omega, by omega⟩ ⟨by omega, by omega⟩) ?_
    refine go_ifq PM235 (k := 1) (p1 := 24) (p2 := 19) (L' := [some (.inr (.inr (some 79))), some (.inl p1), none, none, none, none, none, none, none, none, none]) (st' := []) (w' := (SH, dt)) rfl (c_ne (a := p1 / 6) (b := 1) ⟨by omega, by omega⟩ ⟨by decide, by decide⟩) (fun c435 => ?_) (fun c435 => ?_)
    · skip
      replace c435 := hid c435
      refine go_toq PM235 (k := 2) (pc' := 27) (L' := [some (.inr (.inr (some 79))), some (.inl p1), none, none, none, none, none, none, none, none, none]) (st' := [.inl 6, .inl p1]) (w' := (SH, dt)) rfl ?_
      refine go_smpq PM235 (L' := [some (.inr (.inr (some 79))), some (.inl p1), none, none, none, none, none, none, none, none, none]) (st' := [.inl (p1 / 6)]) (w' := (SH, dt)) rfl rfl (s_idivc ⟨by omega, by omega⟩ ⟨by omega, by omega⟩) ?_
      refine go_ifq PM235 (k := 1) (p1 := 38) (p2 := 32) (L' := [some (.inr (.inr (some 79))), some (.inl p1), none, none, none, none, none, none, none, none, none]) (st' := []) (w' := (SH, dt)) rfl (c_ne (a := p1 / 6) (b := 2) ⟨by omega, by omega⟩ ⟨by decide, by decide⟩) (fun c436 => ?_) (fun c436 => ?_)
      · skip
        replace c436 := hid c436
        refine go_toq PM235 (k := 1) (pc' := 41) (L' := [some (.inr (.inr (some 79))), some (.inl p1), none, none, none, none, none, none, none, none, none]) (st' := [.inl 600]) (w' := (SH, dt)) rfl ?_
        exact GO.le (j4 600 ⟨by decide, by decide⟩) ⟨.inl rfl, .inl rfl, .inl rfl, .inl rfl, .inl rfl, .inl rfl, .inl rfl, .inl rfl, .inl rfl, .inl rfl, .inl rfl, trivial⟩
      · skip
        refine go_toq PM235 (k := 2) (pc' := 41) (L' := [some (.inr (.inr (some 79))), some (.inl p1), none, none, none, none, none, none, none, none, none]) (st' := [.inl 300]) (w' := (SH, dt)) rfl ?_
        exact GO.le (j4 300 ⟨by decide, by decide⟩) ⟨.inl rfl, .inl rfl, .inl rfl, .inl rfl, .inl rfl, .inl rfl, .inl rfl, .inl rfl, .inl rfl, .inl rfl, .inl rfl, trivial⟩
    · skip
      refine go_toq PM235 (k := 2) (pc' := 41) (L' := [some (.inr (.inr (some 79))), some (.inl p1), none, none, none, none, none, none, none, none, none]) (st' := [.inl 100]) (w' := (SH, dt)) rfl ?_
      exact GO.le (j4 100 ⟨by decide, by decide⟩) ⟨.inl rfl, .inl rfl, .inl rfl, .inl rfl, .inl rfl, .inl rfl, .inl rfl, .inl rfl, .inl rfl, .inl rfl, .inl rfl, trivial⟩
  · skip
    refine go_toq PM235 (k := 2) (pc' := 41) (L' := [some (.inr (.inr (some 79))), some (.inl p1), none, none, none, none, none, none, none, none, none]) (st' := [.inl 0]) (w' := (SH, dt)) rfl ?_
    exact GO.le (j4 0 ⟨by decide, by decide⟩) ⟨.inl rfl, .inl rfl, .inl rfl, .inl rfl, .inl rfl, .inl rfl, .inl rfl, .inl rfl, .inl rfl, .inl rfl, .inl rfl, trivial⟩
set_option maxRecDepth 20000 in
theorem sp_X6_way (L : Nat) (xs : Nat → Int32) (sio : Option Nat) (d : Nat) (dt : Nat → Nat → Int) (hI : InvC dt) (hM : MW (dt 80))  (p1 : Int) (h_p1 : (-2147483648) ≤ p1 ∧ p1 ≤ 2147483647)  : GO (am_XX L xs sio) (d + 2) 236 0 [some (.inr (.inr (some 79))), some (.inl p1), none, none] [] (SH, dt) (fun r w2 => ∃ dt2 : Nat → Nat → Int, w2 = (SH, dt2) ∧ InvC dt2 ∧ Fr [104] dt dt2 ∧ ((∃ v : Int, r = some (.inl v) ∧ True ∧ True))) := by
  have hF : Fr [104] dt dt := Fr_refl
  refine go_toq PM236 (k := 3) (pc' := 4) (L' := [some (.inr (.inr (some 79))), some (.inl p1), none, none]) (st' := [.inl 24, .inl 0, .inl p1]) (w' := (SH, dt)) rfl ?_
  refine go_callq PM236 PM146 (Q' := _) rfl rfl rfl rfl (sp_X6_isIn L xs sio (d + 1) dt hI  p1 (by first | exact h_p1 | exact bnd h_p1 (by decide) (by decide) | exact ⟨by fail, by fail⟩) 0 ⟨by decide, by decide⟩ 24 ⟨by decide, by decide⟩ ) ?_
  rintro _ _ ⟨rfl, h1⟩
  refine ⟨rfl, ?_⟩
  rcases h1 with ⟨rfl, h1⟩ | ⟨rfl, h1⟩
  · skip
    refine go_ifq PM236 (k := 3) (p1 := 32) (p2 := 18) (L' := [some (.inr (.inr (some 79))), some (.inl p1), none, none]) (st' := []) (w' := (SH, dt)) rfl (c_ge (a := p1) (b := 24) (by first | exact bnd h_p1 (by decide) (by decide) | exact ⟨by fail, by fail⟩) ⟨by decide, by decide⟩) (fun c2 => ?_) (fun c2 => ?_)
    · skip
      refine go_toq PM236 (k := 4) (pc' := 36) (L' := [some (.inr (.inr (some 79))), some (.inl p1), some (.inl 0), some (.inl 0)]) (st' := []) (w' := (SH, dt)) rfl ?_
      have loop84 : ∀ (k_ : Nat) (l36_2 : Int) (l36_3 : Int) (dt80 : Nat → Nat → Int) (hI81 : InvC dt80) (hF82 : Fr [104] dt dt80) (i83 : 0 ≤ l36_3 ∧ l36_3 ≤ 24), (25 - l36_3).toNat < k_ → GO (am_XX L xs sio) (d + 2) 236 36 [some (.inr (.inr (some 79))), none, some (.inl l36_2), some (.inl l36_3)] [] (SH, dt80) (fun r w2 => ∃ dt2 : Nat → Nat → Int, w2 = (SH, dt2) ∧ InvC dt2 ∧ Fr [104] dt dt2 ∧ ((∃ v : Int, r = some (.inl v) ∧ True ∧ True))) := by
        intro k_
        induction k_ with
        | zero => intro l36_2 l36_3 dt80 hI81 hF82 i83 hm; exact absurd hm (Nat.not_lt_zero _)
        | succ k_ ih_loop84 =>
          intro l36_2 l36_3 dt80 hI81 hF82 i83 hm
          refine go_ifq PM236 (k := 2) (p1 := 64) (p2 := 42) (L' := [some (.inr (.inr (some 79))), none, some (.inl l36_2), some (.inl l36_3)]) (st' := []) (w' := (SH, dt80)) rfl (c_ge (a := l36_3) (b := 24) (by first | exact bnd i83 (by decide) (by decide) | exact ⟨by fail, by fail⟩) ⟨by decide, by decide⟩) (fun c91 => ?_) (fun c91 => ?_)
          · skip
            refine go_retq PM236 (k := 1) (r := some (.inl l36_2)) (w1 := (SH, dt80)) rfl ?_
            exact ⟨dt80, rfl, hI81, hF82, ⟨_, rfl, trivial, trivial⟩⟩
          · skip
            refine go_toq PM236 (k := 3) (pc' := 45) (L' := [some (.inr (.inr (some 79))), none, some (.inl l36_2), some (.inl l36_3)]) (st' := [.inl l36_3, .inr (.inr (some 79)), .inl l36_2]) (w' := (SH, dt80)) rfl ?_
            refine go_callq PM236 PM235 (Q' := _) rfl rfl rfl rfl (sp_X6_isLong L xs sio (d + 0) dt80 hI81 (MW_fr hM hF82 (by decide))  l36_3 (by first | exact bnd i83 (by decide) (by decide) | exact bndd i83 c91 (by decide) (by decide) | exact ⟨by fail, by fail⟩) ) ?_
            rintro _ _ ⟨dt93, rfl, hI94, hF95, h92⟩
            refine ⟨rfl, ?_⟩
            have hF96 : Fr [104] dt dt93 := Fr_tr hF82 hF95 (by decide)
            rcases h92 with ⟨rfl, h92⟩ | ⟨rfl, h92⟩
            · skip
              refine go_toq PM236 (k := 7) (pc' := 36) (L' := [some (.inr (.inr (some 79))), none, some (.inl (l36_2 + 1)), some (.inl (l36_3 + 1))]) (st' := []) (w' := (SH, dt93)) rfl ?_
              exact GO.le (ih_loop84 (l36_2 + 1) (l36_3 + 1) dt93 hI94 hF96 (by first | exact bndp i83 (by decide) (by decide) | exact bnde i83 c91 (by decide) (by decide) | fail) (by omega)) ⟨.inl rfl, .inl rfl, .inl rfl, .inl rfl, trivial⟩
            · skip
              refine go_toq PM236 (k := 6) (pc' := 36) (L' := [some (.inr (.inr (some 79))), none, some (.inl (l36_2 + 0)), some (.inl (l36_3 + 1))]) (st' := []) (w' := (SH, dt93)) rfl ?_
              exact GO.le (ih_loop84 (l36_2 + 0) (l36_3 + 1) dt93 hI94 hF96 (by first | exact bndp i83 (by decide) (by decide) | exact bnde i83 c91 (by decide) (by decide) | fail) (by omega)) ⟨.inl rfl, .inl rfl, .inl rfl, .inl rfl, trivial⟩
      exact GO.le (loop84 _ 0 0 dt hI hF ⟨by decide, by decide⟩ (Nat.lt_succ_self _)) ⟨.inl rfl, .inr ⟨rfl, trivial⟩, .inl rfl, .inl rfl, trivial⟩
    · skip
      refine go_toq PM236 (k := 2) (pc' := 20) (L' := [some (.inr (.inr (some 79))), some (.inl p1), none, none]) (st' := [.inl p1, .inr (.inr (some 79))]) (w' := (SH, dt)) rfl ?_
      refine go_callq PM236 PM235 (Q' := _) rfl rfl rfl rfl (sp_X6_isLong L xs sio (d + 0) dt hI hM  p1 (by first | exact h_p1 | exact bnd h_p1 (by decide) (by decide) | exact ⟨by omega, by omega⟩) ) ?_
      rintro _ _ ⟨dt98, rfl, hI99, hF100, h97⟩
      refine ⟨rfl, ?_⟩
      have hF101 : Fr [104] dt dt98 := Fr_tr hF hF100 (by decide)
      rcases h97 with ⟨rfl, h97⟩ | ⟨rfl, h97⟩
      · skip
        refine go_retq PM236 (k := 3) (r := some (.inl 1)) (w1 := (SH, dt98)) rfl ?_
        exact ⟨dt98, rfl, hI99, hF101, ⟨_, rfl, trivial, trivial⟩⟩
      · skip
        refine go_retq PM236 (k := 2) (r := some (.inl 0)) (w1 := (SH, dt98)) rfl ?_
        exact ⟨dt98, rfl, hI99, hF101, ⟨_, rfl, trivial, trivial⟩⟩
  · skip
    refine go_retq PM236 (k := 2) (r := some (.inl (-1))) (w1 := (SH, dt)) rfl ?_
    exact ⟨dt, rfl, hI, hF, ⟨_, rfl, trivial, trivial⟩⟩
set_option maxRecDepth 20000 in
theorem sp_X6_share (L : Nat) (xs : Nat → Int32) (sio : Option Nat) (d : Nat) (dt : Nat → Nat → Int) (hI : InvC dt) (hM : MW (dt 80))  (p1 : Int) (h_p1 : 0 ≤ p1 ∧ p1 ≤ 19) (h_p0 : p1 < dt 80 5) : GO (am_XX L xs sio) (d) 238 0 [some (.inr (.inr (some 79))), some (.inl p1)] [] (SH, dt) (fun r w2 => w2 = (SH, dt) ∧ ((∃ v : Int, r = some (.inl v) ∧ (0 ≤ v ∧ v ≤ 999000) ∧ True))) := by
  refine go_toq PM238 (k := 10) (pc' := 16) (L' := [some (.inr (.inr (some 79))), some (.inl p1)]) (st' := [.inl ((7420 + (2 * p1)) + 1), .inr (.inr (some 80)), .inl 1000]) (w' := (SH, dt)) rfl ?_
  have r1 : (-2147483648) ≤ dt 80 (((7420 + (2 * p1)) + 1).toNat) ∧ dt 80 (((7420 + (2 * p1)) + 1).toNat) ≤ 2147483647 := InvC_get hI 80 (((7420 + (2 * p1)) + 1).toNat) rfl rfl
  have r2 := MW_h hM (p1) ⟨by omega, by omega⟩
  refine go_smpq PM238 (L' := [some (.inr (.inr (some 79))), some (.inl p1)]) (st' := [.inl (dt 80 (((7420 + (2 * p1)) + 1).toNat)), .inl 1000]) (w' := (SH, dt)) rfl rfl (s_iald (n := 7460) (f := dt 80) rfl ⟨by omega, by omega⟩) ?_
  refine go_toq PM238 (k := 8) (pc' := 29) (L' := [some (.inr (.inr (some 79))), some (.inl p1)]) (st' := [.inl (7420 + (2 * p1)), .inr (.inr (some 80)), .inl (1000 * (dt 80 (((7420 + (2 * p1)) + 1).toNat)))]) (w' := (SH, dt)) rfl ?_
  have r3 : (-2147483648) ≤ dt 80 ((7420 + (2 * p1)).toNat) ∧ dt 80 ((7420 + (2 * p1)).toNat) ≤ 2147483647 := InvC_get hI 80 ((7420 + (2 * p1)).toNat) rfl rfl
  refine go_smpq PM238 (L' := [some (.inr (.inr (some 79))), some (.inl p1)]) (st' := [.inl (dt 80 ((7420 + (2 * p1)).toNat)), .inl (1000 * (dt 80 (((7420 + (2 * p1)) + 1).toNat)))]) (w' := (SH, dt)) rfl rfl (s_iald (n := 7460) (f := dt 80) rfl ⟨by omega, by omega⟩) ?_
  have r4 : 0 ≤ (1000 * (dt 80 (((7420 + (2 * p1)) + 1).toNat))) / (dt 80 ((7420 + (2 * p1)).toNat)) ∧ (1000 * (dt 80 (((7420 + (2 * p1)) + 1).toNat))) / (dt 80 ((7420 + (2 * p1)).toNat)) ≤ (1000 * (dt 80 (((7420 + (2 * p1)) + 1).toNat))) := div_R (by omega) (by omega)
  refine go_smpq PM238 (L' := [some (.inr (.inr (some 79))), some (.inl p1)]) (st' := [.inl ((1000 * (dt 80 (((7420 + (2 * p1)) + 1).toNat))) / (dt 80 ((7420 + (2 * p1)).toNat)))]) (w' := (SH, dt)) rfl rfl (s_idivc ⟨by omega, by omega⟩ ⟨by omega, by omega⟩) ?_
  refine go_retq PM238 (k := 0) (r := some (.inl ((1000 * (dt 80 (((7420 + (2 * p1)) + 1).toNat))) / (dt 80 ((7420 + (2 * p1)).toNat))))) (w1 := (SH, dt)) rfl ?_
  exact ⟨rfl, ⟨_, rfl, ⟨by omega, by omega⟩, trivial⟩⟩
set_option maxRecDepth 20000 in
theorem sp_X6_houses (L : Nat) (xs : Nat → Int32) (sio : Option Nat) (d : Nat) (dt : Nat → Nat → Int) (hI : InvC dt) (hM : MW (dt 80))  (p1 : Int) (h_p1 : (-2147483648) ≤ p1 ∧ p1 ≤ 2147483647)  : GO (am_XX L xs sio) (d + 1) 239 0 [some (.inr (.inr (some 79))), some (.inl p1), none, none, none, none, none, none, none, none, none, none] [] (SH, dt) (fun r w2 => w2 = (SH, dt) ∧ ((∃ v : Int, r = some (.inl v) ∧ True ∧ True))) := by
  refine go_toq PM239 (k := 3) (pc' := 5) (L' := [some (.inr (.inr (some 79))), some (.inl p1), none, none, none, none, none, none, none, none, none, none]) (st' := [.inl 5, .inr (.inr (some 80))]) (w' := (SH, dt)) rfl ?_
  have r1 : (-2147483648) ≤ dt 80 5 ∧ dt 80 5 ≤ 2147483647 := InvC_get hI 80 5 rfl rfl
  have r2 := MW_n hM
  refine go_smpq PM239 (L' := [some (.inr (.inr (some 79))), some (.inl p1), none, none, none, none, none, none, none, none, none, none]) (st' := [.inl (dt 80 5)]) (w' := (SH, dt)) rfl rfl (s_iald (n := 7460) (f := dt 80) rfl ⟨by decide, by decide⟩) ?_
  refine go_toq PM239 (k := 6) (pc' := 14) (L' := [some (.inr (.inr (some 79))), some (.inl p1), some (.inl (dt 80 5)), none, none, none, none, none, none, none, none, none]) (st' := [.inl (9 + (dt 80 5)), .inl 10, .inl p1]) (w' := (SH, dt)) rfl ?_
  refine go_callq PM239 PM146 (Q' := _) rfl rfl rfl rfl (sp_X6_isIn L xs sio (d + 0) dt hI  p1 (by first | exact h_p1 | exact bnd h_p1 (by decide) (by decide) | exact ⟨by fail, by fail⟩) 10 ⟨by decide, by decide⟩ (9 + (dt 80 5)) ⟨by omega, by omega⟩ ) ?_
  rintro _ _ ⟨rfl, h3⟩
  refine ⟨rfl, ?_⟩
  rcases h3 with ⟨rfl, h3⟩ | ⟨rfl, h3⟩
  · skip
    refine go_toq PM239 (k := 5) (pc' := 25) (L' := [some (.inr (.inr (some 79))), some (.inl p1), some (.inl (dt 80 5)), none, none, none, none, none, none, none, none, none]) (st' := [.inl (p1 - 10), .inr (.inr (some 79))]) (w' := (SH, dt)) rfl ?_
    refine go_callq PM239 PM238 (Q' := _) rfl rfl rfl rfl (sp_X6_share L xs sio (d + 0) dt hI hM  (p1 - 10) ⟨by omega, by omega⟩ (by first | exact True.intro | with_reducible assumption | rfl | omega | trivial)) ?_
    rintro _ _ ⟨rfl, h4⟩
    refine ⟨rfl, ?_⟩
    rcases h4 with ⟨v_h4, rfl, h4r, h4⟩
    refine go_retq PM239 (k := 0) (r := some (.inl v_h4)) (w1 := (SH, dt)) rfl ?_
    exact ⟨rfl, ⟨_, rfl, trivial, trivial⟩⟩
  · skip
    refine go_toq PM239 (k := 4) (pc' := 32) (L' := [some (.inr (.inr (some 79))), some (.inl p1), some (.inl (dt 80 5)), none, none, none, none, none, none, none, none, none]) (st' := [.inl 3, .inl 0, .inl p1]) (w' := (SH, dt)) rfl ?_
    refine go_callq PM239 PM146 (Q' := _) rfl rfl rfl rfl (sp_X6_isIn L xs sio (d + 0) dt hI  p1 (by first | exact h_p1 | exact bnd h_p1 (by decide) (by decide) | exact ⟨by fail, by fail⟩) 0 ⟨by decide, by decide⟩ 3 ⟨by decide, by decide⟩ ) ?_
    rintro _ _ ⟨rfl, h5⟩
    refine ⟨rfl, ?_⟩
    rcases h5 with ⟨rfl, h5⟩ | ⟨rfl, h5⟩
    · skip
      refine go_toq PM239 (k := 7) (pc' := 48) (L' := [some (.inr (.inr (some 79))), some (.inl p1), some (.inl (dt 80 5)), some (.inl 0), some (.inl 0), some (.inl 0), none, none, none, none, none, none]) (st' := []) (w' := (SH, dt)) rfl ?_
      have loop47 : ∀ (k_ : Nat) (l48_3 : Int) (l48_4 : Int) (l48_5 : Int) (i46 : 0 ≤ l48_5 ∧ l48_5 ≤ 20), (21 - l48_5).toNat < k_ → GO (am_XX L xs sio) (d + 1) 239 48 [some (.inr (.inr (some 79))), some (.inl p1), some (.inl (dt 80 5)), some (.inl l48_3), some (.inl l48_4), some (.inl l48_5), none, none, none, none, none, none] [] (SH, dt) (fun r w2 => w2 = (SH, dt) ∧ ((∃ v : Int, r = some (.inl v) ∧ True ∧ True))) := by
        intro k_
        induction k_ with
        | zero => intro l48_3 l48_4 l48_5 i46 hm; exact absurd hm (Nat.not_lt_zero _)
        | succ k_ ih_loop47 =>
          intro l48_3 l48_4 l48_5 i46 hm
          refine go_ifq PM239 (k := 2) (p1 := 96) (p2 := 54) (L' := [some (.inr (.inr (some 79))), some (.inl p1), some (.inl (dt 80 5)), some (.inl l48_3), some (.inl l48_4), some (.inl l48_5), none, none, none, none, none, none]) (st' := []) (w' := (SH, dt)) rfl (c_ge (a := l48_5) (b := dt 80 5) (by first | exact bnd i46 (by decide) (by decide) | exact ⟨by fail, by fail⟩) (by first | exact bnd r1 (by decide) (by decide) | exact ⟨by fail, by fail⟩)) (fun c52 => ?_) (fun c52 => ?_)
          · skip
            have r56 := wr_RR l48_3
            refine go_ifq PM239 (k := 1) (p1 := 104) (p2 := 100) (L' := [some (.inr (.inr (some 79))), some (.inl p1), some (.inl (dt 80 5)), some (.inl l48_3), some (.inl l48_4), some (.inl l48_5), none, none, none, none, none, none]) (st' := []) (w' := (SH, dt)) rfl (u_ne (a := wr l48_3) (b := 0)) (fun c55 => ?_) (fun c55 => ?_)
            · skip
              refine go_toq PM239 (k := 4) (pc' := 111) (L' := [some (.inr (.inr (some 79))), some (.inl p1), some (.inl (dt 80 5)), some (.inl l48_3), some (.inl l48_4), some (.inl l48_5), none, none, none, none, none, none]) (st' := [.inl l48_3, .inl (1000 * l48_4)]) (w' := (SH, dt)) rfl ?_
              refine go_smpq PM239 (L' := [some (.inr (.inr (some 79))), some (.inl p1), some (.inl (dt 80 5)), some (.inl l48_3), some (.inl l48_4), some (.inl l48_5), none, none, none, none, none, none]) (st' := [.inl ((wr (1000 * l48_4)).tdiv (wr l48_3))]) (w' := (SH, dt)) rfl rfl (s_idiv (by omega)) ?_
              refine go_toq PM239 (k := 9) (pc' := 126) (L' := [some (.inr (.inr (some 79))), some (.inl p1), some (.inl (dt 80 5)), some (.inl l48_3), some (.inl l48_4), some (.inl ((wr (1000 * l48_4)).tdiv (wr l48_3))), some (.inr (.inl 0)), none, some (.inl 0), some (.inl 0), some (.inl 0), none]) (st' := []) (w' := (SH, dt)) rfl ?_
              have loop2310 : ∀ (k_ : Nat) (l126_6 : Int) (l126_8 : Int) (l126_9 : Int) (l126_10 : Int) (i2307 : 0 ≤ l126_8 ∧ l126_8 ≤ 2147483647) (i2308 : 0 ≤ l126_9 ∧ l126_9 ≤ 2147483647) (i2309 : 0 ≤ l126_10 ∧ l126_10 ≤ 20), (21 - l126_10).toNat < k_ → GO (am_XX L xs sio) (d + 1) 239 126 [some (.inr (.inr (some 79))), some (.inl p1), some (.inl (dt 80 5)), none, none, some (.inl ((wr (1000 * l48_4)).tdiv (wr l48_3))), some (.inr (.inl l126_6)), none, some (.inl l126_8), some (.inl l126_9), some (.inl l126_10), none] [] (SH, dt) (fun r w2 => w2 = (SH, dt) ∧ ((∃ v : Int, r = some (.inl v) ∧ True ∧ True))) := by
                intro k_
                induction k_ with
                | zero => intro l126_6 l126_8 l126_9 l126_10 i2307 i2308 i2309 hm; exact absurd hm (Nat.not_lt_zero _)
                | succ k_ ih_loop2310 =>
                  intro l126_6 l126_8 l126_9 l126_10 i2307 i2308 i2309 hm
                  refine go_ifq PM239 (k := 2) (p1 := 241) (p2 := 132) (L' := [some (.inr (.inr (some 79))), some (.inl p1), some (.inl (dt 80 5)), none, none, some (.inl ((wr (1000 * l48_4)).tdiv (wr l48_3))), some (.inr (.inl l126_6)), none, some (.inl l126_8), some (.inl l126_9), some (.inl l126_10), none]) (st' := []) (w' := (SH, dt)) rfl (c_ge (a := l126_10) (b := dt 80 5) (by first | exact bnd i2309 (by decide) (by decide) | exact ⟨by fail, by fail⟩) (by first | exact bnd r1 (by decide) (by decide) | exact ⟨by fail, by fail⟩)) (fun c2335 => ?_) (fun c2335 => ?_)
                  · skip
                    have j2339 : ∀ (j2339_s0 : Int), GO (am_XX L xs sio) (d + 1) 239 277 [some (.inr (.inr (some 79))), none, none, none, none, none, none, none, none, none, none, none] [.inl j2339_s0] (SH, dt) (fun r w2 => w2 = (SH, dt) ∧ ((∃ v : Int, r = some (.inl v) ∧ True ∧ True))) := by
                      intro j2339_s0
                      refine go_retq PM239 (k := 0) (r := some (.inl j2339_s0)) (w1 := (SH, dt)) rfl ?_
                      exact ⟨rfl, ⟨_, rfl, trivial, trivial⟩⟩
                    refine go_ifq PM239 (k := 1) (p1 := 250) (p2 := 245) (L' := [some (.inr (.inr (some 79))), some (.inl p1), some (.inl (dt 80 5)), none, none, some (.inl ((wr (1000 * l48_4)).tdiv (wr l48_3))), some (.inr (.inl l126_6)), none, some (.inl l126_8), some (.inl l126_9), some (.inl l126_10), none]) (st' := []) (w' := (SH, dt)) rfl (z_ne (a := p1) (by first | exact bnd h_p1 (by decide) (by decide) | exact ⟨by fail, by fail⟩)) (fun c2340 => ?_) (fun c2340 => ?_)
                    · skip
                      replace c2340 := hid c2340
                      refine go_ifq PM239 (k := 2) (p1 := 265) (p2 := 255) (L' := [some (.inr (.inr (some 79))), some (.inl p1), some (.inl (dt 80 5)), none, none, some (.inl ((wr (1000 * l48_4)).tdiv (wr l48_3))), some (.inr (.inl l126_6)), none, some (.inl l126_8), some (.inl l126_9), some (.inl l126_10), none]) (st' := []) (w' := (SH, dt)) rfl (c_ne (a := p1) (b := 1) (by first | exact bnd h_p1 (by decide) (by decide) | exact ⟨by fail, by fail⟩) ⟨by decide, by decide⟩) (fun c2341 => ?_) (fun c2341 => ?_)
                      · skip
                        replace c2341 := hid c2341
                        refine go_ifq PM239 (k := 2) (p1 := 275) (p2 := 270) (L' := [some (.inr (.inr (some 79))), some (.inl p1), some (.inl (dt 80 5)), none, none, some (.inl ((wr (1000 * l48_4)).tdiv (wr l48_3))), some (.inr (.inl l126_6)), none, some (.inl l126_8), some (.inl l126_9), some (.inl l126_10), none]) (st' := []) (w' := (SH, dt)) rfl (c_ne (a := p1) (b := 2) (by first | exact bnd h_p1 (by decide) (by decide) | exact ⟨by fail, by fail⟩) ⟨by decide, by decide⟩) (fun c2342 => ?_) (fun c2342 => ?_)
                        · skip
                          replace c2342 := hid c2342
                          refine go_toq PM239 (k := 1) (pc' := 277) (L' := [some (.inr (.inr (some 79))), some (.inl p1), some (.inl (dt 80 5)), none, none, some (.inl ((wr (1000 * l48_4)).tdiv (wr l48_3))), some (.inr (.inl l126_6)), none, some (.inl l126_8), some (.inl l126_9), some (.inl l126_10), none]) (st' := [.inl l126_9]) (w' := (SH, dt)) rfl ?_
                          exact GO.le (j2339 l126_9) ⟨.inl rfl, .inr ⟨rfl, trivial⟩, .inr ⟨rfl, trivial⟩, .inl rfl, .inl rfl, .inr ⟨rfl, trivial⟩, .inr ⟨rfl, trivial⟩, .inl rfl, .inr ⟨rfl, trivial⟩, .inr ⟨rfl, trivial⟩, .inr ⟨rfl, trivial⟩, .inl rfl, trivial⟩
                        · skip
                          refine go_toq PM239 (k := 2) (pc' := 277) (L' := [some (.inr (.inr (some 79))), some (.inl p1), some (.inl (dt 80 5)), none, none, some (.inl ((wr (1000 * l48_4)).tdiv (wr l48_3))), some (.inr (.inl l126_6)), none, some (.inl l126_8), some (.inl l126_9), some (.inl l126_10), none]) (st' := [.inl l126_8]) (w' := (SH, dt)) rfl ?_
                          exact GO.le (j2339 l126_8) ⟨.inl rfl, .inr ⟨rfl, trivial⟩, .inr ⟨rfl, trivial⟩, .inl rfl, .inl rfl, .inr ⟨rfl, trivial⟩, .inr ⟨rfl, trivial⟩, .inl rfl, .inr ⟨rfl, trivial⟩, .inr ⟨rfl, trivial⟩, .inr ⟨rfl, trivial⟩, .inl rfl, trivial⟩
                      · skip
                        refine go_toq PM239 (k := 2) (pc' := 260) (L' := [some (.inr (.inr (some 79))), some (.inl p1), some (.inl (dt 80 5)), none, none, some (.inl ((wr (1000 * l48_4)).tdiv (wr l48_3))), some (.inr (.inl l126_6)), none, some (.inl l126_8), some (.inl l126_9), some (.inl l126_10), none]) (st' := [.inr (.inl 1000), .inr (.inl l126_6)]) (w' := (SH, dt)) rfl ?_
                        refine go_smpq PM239 (L' := [some (.inr (.inr (some 79))), some (.inl p1), some (.inl (dt 80 5)), none, none, some (.inl ((wr (1000 * l48_4)).tdiv (wr l48_3))), some (.inr (.inl l126_6)), none, some (.inl l126_8), some (.inl l126_9), some (.inl l126_10), none]) (st' := [.inr (.inl ((wl l126_6).tdiv (wl 1000)))]) (w' := (SH, dt)) rfl rfl (s_ldiv (by decide)) ?_
                        refine go_toq PM239 (k := 2) (pc' := 277) (L' := [some (.inr (.inr (some 79))), some (.inl p1), some (.inl (dt 80 5)), none, none, some (.inl ((wr (1000 * l48_4)).tdiv (wr l48_3))), some (.inr (.inl l126_6)), none, some (.inl l126_8), some (.inl l126_9), some (.inl l126_10), none]) (st' := [.inl ((wl l126_6).tdiv (wl 1000))]) (w' := (SH, dt)) rfl ?_
                        exact GO.le (j2339 ((wl l126_6).tdiv (wl 1000))) ⟨.inl rfl, .inr ⟨rfl, trivial⟩, .inr ⟨rfl, trivial⟩, .inl rfl, .inl rfl, .inr ⟨rfl, trivial⟩, .inr ⟨rfl, trivial⟩, .inl rfl, .inr ⟨rfl, trivial⟩, .inr ⟨rfl, trivial⟩, .inr ⟨rfl, trivial⟩, .inl rfl, trivial⟩
                    · skip
                      refine go_toq PM239 (k := 2) (pc' := 277) (L' := [some (.inr (.inr (some 79))), some (.inl p1), some (.inl (dt 80 5)), none, none, some (.inl ((wr (1000 * l48_4)).tdiv (wr l48_3))), some (.inr (.inl l126_6)), none, some (.inl l126_8), some (.inl l126_9), some (.inl l126_10), none]) (st' := [.inl ((wr (1000 * l48_4)).tdiv (wr l48_3))]) (w' := (SH, dt)) rfl ?_
                      exact GO.le (j2339 ((wr (1000 * l48_4)).tdiv (wr l48_3))) ⟨.inl rfl, .inr ⟨rfl, trivial⟩, .inr ⟨rfl, trivial⟩, .inl rfl, .inl rfl, .inr ⟨rfl, trivial⟩, .inr ⟨rfl, trivial⟩, .inl rfl, .inr ⟨rfl, trivial⟩, .inr ⟨rfl, trivial⟩, .inr ⟨rfl, trivial⟩, .inl rfl, trivial⟩
                  · skip
                    refine go_toq PM239 (k := 2) (pc' := 135) (L' := [some (.inr (.inr (some 79))), some (.inl p1), some (.inl (dt 80 5)), none, none, some (.inl ((wr (1000 * l48_4)).tdiv (wr l48_3))), some (.inr (.inl l126_6)), none, some (.inl l126_8), some (.inl l126_9), some (.inl l126_10), none]) (st' := [.inl l126_10, .inr (.inr (some 79))]) (w' := (SH, dt)) rfl ?_
                    refine go_callq PM239 PM238 (Q' := _) rfl rfl rfl rfl (sp_X6_share L xs sio (d + 0) dt hI hM  l126_10 (by first | exact bnd i2309 (by decide) (by decide) | exact bndd i2309 c2335 (by decide) (by decide) | exact ⟨by omega, by omega⟩) (by first | exact True.intro | with_reducible assumption | rfl | omega | trivial)) ?_
                    rintro _ _ ⟨rfl, h2343⟩
                    refine ⟨rfl, ?_⟩
                    rcases h2343 with ⟨v_h2343, rfl, h2343r, h2343⟩
                    refine go_toq PM239 (k := 1) (pc' := 140) (L' := [some (.inr (.inr (some 79))), some (.inl p1), some (.inl (dt 80 5)), none, none, some (.inl ((wr (1000 * l48_4)).tdiv (wr l48_3))), some (.inr (.inl l126_6)), none, some (.inl l126_8), some (.inl l126_9), some (.inl l126_10), none]) (st' := [.inl ((wr (1000 * l48_4)).tdiv (wr l48_3)), .inl v_h2343]) (w' := (SH, dt)) rfl ?_
                    refine go_callq PM239 PM147 (Q' := _) rfl rfl rfl rfl (sp_X6_apart L xs sio (d + 0) dt hI  v_h2343 ((wr (1000 * l48_4)).tdiv (wr l48_3)) ) ?_
                    rintro _ _ ⟨rfl, h2344⟩
                    refine ⟨rfl, ?_⟩
                    rcases h2344 with ⟨v_h2344, rfl, h2344r, h2344⟩
                    refine go_toq PM239 (k := 9) (pc' := 159) (L' := [some (.inr (.inr (some 79))), some (.inl p1), some (.inl (dt 80 5)), none, none, some (.inl ((wr (1000 * l48_4)).tdiv (wr l48_3))), some (.inr (.inl l126_6)), none, some (.inl l126_8), some (.inl l126_9), some (.inl l126_10), some (.inl v_h2344)]) (st' := [.inl (7420 + (2 * l126_10)), .inr (.inr (some 80)), .inr (.inl l126_6)]) (w' := (SH, dt)) rfl ?_
                    have r2345 : (-2147483648) ≤ dt 80 ((7420 + (2 * l126_10)).toNat) ∧ dt 80 ((7420 + (2 * l126_10)).toNat) ≤ 2147483647 := InvC_get hI 80 ((7420 + (2 * l126_10)).toNat) rfl rfl
                    have r2346 := MW_h hM (l126_10) ⟨by omega, by omega⟩
                    refine go_smpq PM239 (L' := [some (.inr (.inr (some 79))), some (.inl p1), some (.inl (dt 80 5)), none, none, some (.inl ((wr (1000 * l48_4)).tdiv (wr l48_3))), some (.inr (.inl l126_6)), none, some (.inl l126_8), some (.inl l126_9), some (.inl l126_10), some (.inl v_h2344)]) (st' := [.inl (dt 80 ((7420 + (2 * l126_10)).toNat)), .inr (.inl l126_6)]) (w' := (SH, dt)) rfl rfl (s_iald (n := 7460) (f := dt 80) rfl ⟨by omega, by omega⟩) ?_
                    refine go_smpq PM239 (L' := [some (.inr (.inr (some 79))), some (.inl p1), some (.inl (dt 80 5)), none, none, some (.inl ((wr (1000 * l48_4)).tdiv (wr l48_3))), some (.inr (.inl l126_6)), none, some (.inl l126_8), some (.inl l126_9), some (.inl l126_10), some (.inl v_h2344)]) (st' := [.inr (.inl (dt 80 ((7420 + (2 * l126_10)).toNat))), .inr (.inl l126_6)]) (w' := (SH, dt)) rfl rfl (s_i2l ⟨by omega, by omega⟩) ?_
                    have r2347 := wr_RR v_h2344
                    have r2348 := wr_RR v_h2344
                    refine go_toq PM239 (k := 18) (pc' := 191) (L' := [some (.inr (.inr (some 79))), some (.inl p1), some (.inl (dt 80 5)), none, none, some (.inl ((wr (1000 * l48_4)).tdiv (wr l48_3))), some (.inr (.inl (l126_6 + (((dt 80 ((7420 + (2 * l126_10)).toNat)) * (wr v_h2344)) * (wr v_h2344))))), none, some (.inl l126_8), some (.inl l126_9), some (.inl l126_10), some (.inl v_h2344)]) (st' := [.inl (7420 + (2 * l126_10)), .inr (.inr (some 80)), .inl 1000, .inl v_h2344, .inl l126_8]) (w' := (SH, dt)) rfl ?_
                    refine go_smpq PM239 (L' := [some (.inr (.inr (some 79))), some (.inl p1), some (.inl (dt 80 5)), none, none, some (.inl ((wr (1000 * l48_4)).tdiv (wr l48_3))), some (.inr (.inl (l126_6 + (((dt 80 ((7420 + (2 * l126_10)).toNat)) * (wr v_h2344)) * (wr v_h2344))))), none, some (.inl l126_8), some (.inl l126_9), some (.inl l126_10), some (.inl v_h2344)]) (st' := [.inl (dt 80 ((7420 + (2 * l126_10)).toNat)), .inl 1000, .inl v_h2344, .inl l126_8]) (w' := (SH, dt)) rfl rfl (s_iald (n := 7460) (f := dt 80) rfl ⟨by omega, by omega⟩) ?_
                    refine go_callq PM239 PM148 (Q' := _) rfl rfl rfl rfl (sp_X6_root L xs sio (d + 0) dt hI  (dt 80 ((7420 + (2 * l126_10)).toNat)) (by first | exact bnd r2345 (by decide) (by decide) | exact ⟨by omega, by omega⟩) ) ?_
                    rintro _ _ ⟨rfl, h2349⟩
                    refine ⟨rfl, ?_⟩
                    rcases h2349 with ⟨v_h2349, rfl, h2349r, h2349⟩
                    refine go_smpq PM239 (L' := [some (.inr (.inr (some 79))), some (.inl p1), some (.inl (dt 80 5)), none, none, some (.inl ((wr (1000 * l48_4)).tdiv (wr l48_3))), some (.inr (.inl (l126_6 + (((dt 80 ((7420 + (2 * l126_10)).toNat)) * (wr v_h2344)) * (wr v_h2344))))), none, some (.inl l126_8), some (.inl l126_9), some (.inl l126_10), some (.inl v_h2344)]) (st' := [.inl ((wr 1000).tdiv (wr v_h2349)), .inl v_h2344, .inl l126_8]) (w' := (SH, dt)) rfl rfl (s_idiv (by rw [wr_R ⟨by omega, by omega⟩]; omega)) ?_
                    have r2355 := wr_RR v_h2344
                    have r2356 := wr_RR ((wr 1000).tdiv (wr v_h2349))
                    refine go_ifq PM239 (k := 0) (p1 := 206) (p2 := 199) (L' := [some (.inr (.inr (some 79))), some (.inl p1), some (.inl (dt 80 5)), none, none, some (.inl ((wr (1000 * l48_4)).tdiv (wr l48_3))), some (.inr (.inl (l126_6 + (((dt 80 ((7420 + (2 * l126_10)).toNat)) * (wr v_h2344)) * (wr v_h2344))))), none, some (.inl l126_8), some (.inl l126_9), some (.inl l126_10), some (.inl v_h2344)]) (st' := [.inl l126_8]) (w' := (SH, dt)) rfl (u_le (a := wr v_h2344) (b := wr ((wr 1000).tdiv (wr v_h2349)))) (fun c2354 => ?_) (fun c2354 => ?_)
                    · skip
                      have r2357 : 0 ≤ am_or l126_8 0 ∧ am_or l126_8 0 ≤ 2147483647 := am_or_N (n := 31) ⟨by omega, by omega⟩ ⟨by omega, by omega⟩ (by decide) (by decide)
                      refine go_toq PM239 (k := 6) (pc' := 215) (L' := [some (.inr (.inr (some 79))), some (.inl p1), some (.inl (dt 80 5)), none, none, some (.inl ((wr (1000 * l48_4)).tdiv (wr l48_3))), some (.inr (.inl (l126_6 + (((dt 80 ((7420 + (2 * l126_10)).toNat)) * (wr v_h2344)) * (wr v_h2344))))), none, some (.inl (am_or l126_8 0)), some (.inl l126_9), some (.inl l126_10), some (.inl v_h2344)]) (st' := [.inl l126_10, .inr (.inr (some 79)), .inl l126_9]) (w' := (SH, dt)) rfl ?_
                      refine go_callq PM239 PM238 (Q' := _) rfl rfl rfl rfl (sp_X6_share L xs sio (d + 0) dt hI hM  l126_10 (by first | exact bnd i2309 (by decide) (by decide) | exact bndd i2309 c2335 (by decide) (by decide) | exact ⟨by omega, by omega⟩) (by first | exact True.intro | with_reducible assumption | rfl | omega | trivial)) ?_
                      rintro _ _ ⟨rfl, h2358⟩
                      refine ⟨rfl, ?_⟩
                      rcases h2358 with ⟨v_h2358, rfl, h2358r, h2358⟩
                      refine go_ifq PM239 (k := 1) (p1 := 231) (p2 := 224) (L' := [some (.inr (.inr (some 79))), some (.inl p1), some (.inl (dt 80 5)), none, none, some (.inl ((wr (1000 * l48_4)).tdiv (wr l48_3))), some (.inr (.inl (l126_6 + (((dt 80 ((7420 + (2 * l126_10)).toNat)) * (wr v_h2344)) * (wr v_h2344))))), none, some (.inl (am_or l126_8 0)), some (.inl l126_9), some (.inl l126_10), some (.inl v_h2344)]) (st' := [.inl l126_9]) (w' := (SH, dt)) rfl (c_le (a := v_h2358) (b := 499) (by first | exact bnd h2358r (by decide) (by decide) | exact ⟨by fail, by fail⟩) ⟨by decide, by decide⟩) (fun c2361 => ?_) (fun c2361 => ?_)
                      · skip
                        have r2362 : 0 ≤ am_or l126_9 0 ∧ am_or l126_9 0 ≤ 2147483647 := am_or_N (n := 31) ⟨by omega, by omega⟩ ⟨by omega, by omega⟩ (by decide) (by decide)
                        refine go_toq PM239 (k := 5) (pc' := 126) (L' := [some (.inr (.inr (some 79))), some (.inl p1), some (.inl (dt 80 5)), none, none, some (.inl ((wr (1000 * l48_4)).tdiv (wr l48_3))), some (.inr (.inl (l126_6 + (((dt 80 ((7420 + (2 * l126_10)).toNat)) * (wr v_h2344)) * (wr v_h2344))))), none, some (.inl (am_or l126_8 0)), some (.inl (am_or l126_9 0)), some (.inl (l126_10 + 1)), some (.inl v_h2344)]) (st' := []) (w' := (SH, dt)) rfl ?_
                        exact GO.le (ih_loop2310 (l126_6 + (((dt 80 ((7420 + (2 * l126_10)).toNat)) * (wr v_h2344)) * (wr v_h2344))) (am_or l126_8 0) (am_or l126_9 0) (l126_10 + 1) (by first | exact bnd r2357 (by decide) (by decide) | fail) (by first | exact bnd r2362 (by decide) (by decide) | fail) (by first | exact bndp i2309 (by decide) (by decide) | exact bnde i2309 c2335 (by decide) (by decide) | omega) (by omega)) ⟨.inl rfl, .inl rfl, .inl rfl, .inl rfl, .inl rfl, .inl rfl, .inl rfl, .inl rfl, .inl rfl, .inl rfl, .inl rfl, .inr ⟨rfl, trivial⟩, trivial⟩
                      · skip
                        have r2363 : 1 ≤ am_shl 1 l126_10 ∧ am_shl 1 l126_10 ≤ 1073741824 := shl1_R ⟨by omega, by omega⟩
                        have r2364 : 0 ≤ am_or l126_9 (am_shl 1 l126_10) ∧ am_or l126_9 (am_shl 1 l126_10) ≤ 2147483647 := am_or_N (n := 31) ⟨by omega, by omega⟩ ⟨by omega, by omega⟩ (by decide) (by decide)
                        refine go_toq PM239 (k := 8) (pc' := 126) (L' := [some (.inr (.inr (some 79))), some (.inl p1), some (.inl (dt 80 5)), none, none, some (.inl ((wr (1000 * l48_4)).tdiv (wr l48_3))), some (.inr (.inl (l126_6 + (((dt 80 ((7420 + (2 * l126_10)).toNat)) * (wr v_h2344)) * (wr v_h2344))))), none, some (.inl (am_or l126_8 0)), some (.inl (am_or l126_9 (am_shl 1 l126_10))), some (.inl (l126_10 + 1)), some (.inl v_h2344)]) (st' := []) (w' := (SH, dt)) rfl ?_
                        exact GO.le (ih_loop2310 (l126_6 + (((dt 80 ((7420 + (2 * l126_10)).toNat)) * (wr v_h2344)) * (wr v_h2344))) (am_or l126_8 0) (am_or l126_9 (am_shl 1 l126_10)) (l126_10 + 1) (by first | exact bnd r2357 (by decide) (by decide) | fail) (by first | exact bnd r2364 (by decide) (by decide) | fail) (by first | exact bndp i2309 (by decide) (by decide) | exact bnde i2309 c2335 (by decide) (by decide) | omega) (by omega)) ⟨.inl rfl, .inl rfl, .inl rfl, .inl rfl, .inl rfl, .inl rfl, .inl rfl, .inl rfl, .inl rfl, .inl rfl, .inl rfl, .inr ⟨rfl, trivial⟩, trivial⟩
                    · skip
                      have r2365 : 1 ≤ am_shl 1 l126_10 ∧ am_shl 1 l126_10 ≤ 1073741824 := shl1_R ⟨by omega, by omega⟩
                      have r2366 : 0 ≤ am_or l126_8 (am_shl 1 l126_10) ∧ am_or l126_8 (am_shl 1 l126_10) ≤ 2147483647 := am_or_N (n := 31) ⟨by omega, by omega⟩ ⟨by omega, by omega⟩ (by decide) (by decide)
                      refine go_toq PM239 (k := 9) (pc' := 215) (L' := [some (.inr (.inr (some 79))), some (.inl p1), some (.inl (dt 80 5)), none, none, some (.inl ((wr (1000 * l48_4)).tdiv (wr l48_3))), some (.inr (.inl (l126_6 + (((dt 80 ((7420 + (2 * l126_10)).toNat)) * (wr v_h2344)) * (wr v_h2344))))), none, some (.inl (am_or l126_8 (am_shl 1 l126_10))), some (.inl l126_9), some (.inl l126_10), some (.inl v_h2344)]) (st' := [.inl l126_10, .inr (.inr (some 79)), .inl l126_9]) (w' := (SH, dt)) rfl ?_
                      refine go_callq PM239 PM238 (Q' := _) rfl rfl rfl rfl (sp_X6_share L xs sio (d + 0) dt hI hM  l126_10 (by first | exact bnd i2309 (by decide) (by decide) | exact bndd i2309 c2335 (by decide) (by decide) | exact ⟨by omega, by omega⟩) (by first | exact True.intro | with_reducible assumption | rfl | omega | trivial)) ?_
                      rintro _ _ ⟨rfl, h2367⟩
                      refine ⟨rfl, ?_⟩
                      rcases h2367 with ⟨v_h2367, rfl, h2367r, h2367⟩
                      refine go_ifq PM239 (k := 1) (p1 := 231) (p2 := 224) (L' := [some (.inr (.inr (some 79))), some (.inl p1), some (.inl (dt 80 5)), none, none, some (.inl ((wr (1000 * l48_4)).tdiv (wr l48_3))), some (.inr (.inl (l126_6 + (((dt 80 ((7420 + (2 * l126_10)).toNat)) * (wr v_h2344)) * (wr v_h2344))))), none, some (.inl (am_or l126_8 (am_shl 1 l126_10))), some (.inl l126_9), some (.inl l126_10), some (.inl v_h2344)]) (st' := [.inl l126_9]) (w' := (SH, dt)) rfl (c_le (a := v_h2367) (b := 499) (by first | exact bnd h2367r (by decide) (by decide) | exact ⟨by fail, by fail⟩) ⟨by decide, by decide⟩) (fun c2370 => ?_) (fun c2370 => ?_)
                      · skip
                        have r2371 : 0 ≤ am_or l126_9 0 ∧ am_or l126_9 0 ≤ 2147483647 := am_or_N (n := 31) ⟨by omega, by omega⟩ ⟨by omega, by omega⟩ (by decide) (by decide)
                        refine go_toq PM239 (k := 5) (pc' := 126) (L' := [some (.inr (.inr (some 79))), some (.inl p1), some (.inl (dt 80 5)), none, none, some (.inl ((wr (1000 * l48_4)).tdiv (wr l48_3))), some (.inr (.inl (l126_6 + (((dt 80 ((7420 + (2 * l126_10)).toNat)) * (wr v_h2344)) * (wr v_h2344))))), none, some (.inl (am_or l126_8 (am_shl 1 l126_10))), some (.inl (am_or l126_9 0)), some (.inl (l126_10 + 1)), some (.inl v_h2344)]) (st' := []) (w' := (SH, dt)) rfl ?_
                        exact GO.le (ih_loop2310 (l126_6 + (((dt 80 ((7420 + (2 * l126_10)).toNat)) * (wr v_h2344)) * (wr v_h2344))) (am_or l126_8 (am_shl 1 l126_10)) (am_or l126_9 0) (l126_10 + 1) (by first | exact bnd r2366 (by decide) (by decide) | fail) (by first | exact bnd r2371 (by decide) (by decide) | fail) (by first | exact bndp i2309 (by decide) (by decide) | exact bnde i2309 c2335 (by decide) (by decide) | omega) (by omega)) ⟨.inl rfl, .inl rfl, .inl rfl, .inl rfl, .inl rfl, .inl rfl, .inl rfl, .inl rfl, .inl rfl, .inl rfl, .inl rfl, .inr ⟨rfl, trivial⟩, trivial⟩
                      · skip
                        have r2372 : 1 ≤ am_shl 1 l126_10 ∧ am_shl 1 l126_10 ≤ 1073741824 := shl1_R ⟨by omega, by omega⟩
                        have r2373 : 0 ≤ am_or l126_9 (am_shl 1 l126_10) ∧ am_or l126_9 (am_shl 1 l126_10) ≤ 2147483647 := am_or_N (n := 31) ⟨by omega, by omega⟩ ⟨by omega, by omega⟩ (by decide) (by decide)
                        refine go_toq PM239 (k := 8) (pc' := 126) (L' := [some (.inr (.inr (some 79))), some (.inl p1), some (.inl (dt 80 5)), none, none, some (.inl ((wr (1000 * l48_4)).tdiv (wr l48_3))), some (.inr (.inl (l126_6 + (((dt 80 ((7420 + (2 * l126_10)).toNat)) * (wr v_h2344)) * (wr v_h2344))))), none, some (.inl (am_or l126_8 (am_shl 1 l126_10))), some (.inl (am_or l126_9 (am_shl 1 l126_10))), some (.inl (l126_10 + 1)), some (.inl v_h2344)]) (st' := []) (w' := (SH, dt)) rfl ?_
                        exact GO.le (ih_loop2310 (l126_6 + (((dt 80 ((7420 + (2 * l126_10)).toNat)) * (wr v_h2344)) * (wr v_h2344))) (am_or l126_8 (am_shl 1 l126_10)) (am_or l126_9 (am_shl 1 l126_10)) (l126_10 + 1) (by first | exact bnd r2366 (by decide) (by decide) | fail) (by first | exact bnd r2373 (by decide) (by decide) | fail) (by first | exact bndp i2309 (by decide) (by decide) | exact bnde i2309 c2335 (by decide) (by decide) | omega) (by omega)) ⟨.inl rfl, .inl rfl, .inl rfl, .inl rfl, .inl rfl, .inl rfl, .inl rfl, .inl rfl, .inl rfl, .inl rfl, .inl rfl, .inr ⟨rfl, trivial⟩, trivial⟩
              exact GO.le (loop2310 _ 0 0 0 0 ⟨by decide, by decide⟩ ⟨by decide, by decide⟩ ⟨by decide, by decide⟩ (Nat.lt_succ_self _)) ⟨.inl rfl, .inl rfl, .inl rfl, .inr ⟨rfl, trivial⟩, .inr ⟨rfl, trivial⟩, .inl rfl, .inl rfl, .inl rfl, .inl rfl, .inl rfl, .inl rfl, .inl rfl, trivial⟩
            · skip
              refine go_toq PM239 (k := 11) (pc' := 126) (L' := [some (.inr (.inr (some 79))), some (.inl p1), some (.inl (dt 80 5)), some (.inl l48_3), some (.inl l48_4), some (.inl (-1)), some (.inr (.inl 0)), none, some (.inl 0), some (.inl 0), some (.inl 0), none]) (st' := []) (w' := (SH, dt)) rfl ?_
              have loop4627 : ∀ (k_ : Nat) (l126_6 : Int) (l126_8 : Int) (l126_9 : Int) (l126_10 : Int) (i4624 : 0 ≤ l126_8 ∧ l126_8 ≤ 2147483647) (i4625 : 0 ≤ l126_9 ∧ l126_9 ≤ 2147483647) (i4626 : 0 ≤ l126_10 ∧ l126_10 ≤ 20), (21 - l126_10).toNat < k_ → GO (am_XX L xs sio) (d + 1) 239 126 [some (.inr (.inr (some 79))), some (.inl p1), some (.inl (dt 80 5)), none, none, some (.inl (-1)), some (.inr (.inl l126_6)), none, some (.inl l126_8), some (.inl l126_9), some (.inl l126_10), none] [] (SH, dt) (fun r w2 => w2 = (SH, dt) ∧ ((∃ v : Int, r = some (.inl v) ∧ True ∧ True))) := by
                intro k_
                induction k_ with
                | zero => intro l126_6 l126_8 l126_9 l126_10 i4624 i4625 i4626 hm; exact absurd hm (Nat.not_lt_zero _)
                | succ k_ ih_loop4627 =>
                  intro l126_6 l126_8 l126_9 l126_10 i4624 i4625 i4626 hm
                  refine go_ifq PM239 (k := 2) (p1 := 241) (p2 := 132) (L' := [some (.inr (.inr (some 79))), some (.inl p1), some (.inl (dt 80 5)), none, none, some (.inl (-1)), some (.inr (.inl l126_6)), none, some (.inl l126_8), some (.inl l126_9), some (.inl l126_10), none]) (st' := []) (w' := (SH, dt)) rfl (c_ge (a := l126_10) (b := dt 80 5) (by first | exact bnd i4626 (by decide) (by decide) | exact ⟨by fail, by fail⟩) (by first | exact bnd r1 (by decide) (by decide) | exact ⟨by fail, by fail⟩)) (fun c4652 => ?_) (fun c4652 => ?_)
                  · skip
                    have j4656 : ∀ (j4656_s0 : Int), GO (am_XX L xs sio) (d + 1) 239 277 [some (.inr (.inr (some 79))), none, none, none, none, none, none, none, none, none, none, none] [.inl j4656_s0] (SH, dt) (fun r w2 => w2 = (SH, dt) ∧ ((∃ v : Int, r = some (.inl v) ∧ True ∧ True))) := by
                      intro j4656_s0
                      refine go_retq PM239 (k := 0) (r := some (.inl j4656_s0)) (w1 := (SH, dt)) rfl ?_
                      exact ⟨rfl, ⟨_, rfl, trivial, trivial⟩⟩
                    refine go_ifq PM239 (k := 1) (p1 := 250) (p2 := 245) (L' := [some (.inr (.inr (some 79))), some (.inl p1), some (.inl (dt 80 5)), none, none, some (.inl (-1)), some (.inr (.inl l126_6)), none, some (.inl l126_8), some (.inl l126_9), some (.inl l126_10), none]) (st' := []) (w' := (SH, dt)) rfl (z_ne (a := p1) (by first | exact bnd h_p1 (by decide) (by decide) | exact ⟨by fail, by fail⟩)) (fun c4657 => ?_) (fun c4657 => ?_)
                    · skip
                      replace c4657 := hid c4657
                      refine go_ifq PM239 (k := 2) (p1 := 265) (p2 := 255) (L' := [some (.inr (.inr (some 79))), some (.inl p1), some (.inl (dt 80 5)), none, none, some (.inl (-1)), some (.inr (.inl l126_6)), none, some (.inl l126_8), some (.inl l126_9), some (.inl l126_10), none]) (st' := []) (w' := (SH, dt)) rfl (c_ne (a := p1) (b := 1) (by first | exact bnd h_p1 (by decide) (by decide) | exact ⟨by fail, by fail⟩) ⟨by decide, by decide⟩) (fun c4658 => ?_) (fun c4658 => ?_)
                      · skip
                        replace c4658 := hid c4658
                        refine go_ifq PM239 (k := 2) (p1 := 275) (p2 := 270) (L' := [some (.inr (.inr (some 79))), some (.inl p1), some (.inl (dt 80 5)), none, none, some (.inl (-1)), some (.inr (.inl l126_6)), none, some (.inl l126_8), some (.inl l126_9), some (.inl l126_10), none]) (st' := []) (w' := (SH, dt)) rfl (c_ne (a := p1) (b := 2) (by first | exact bnd h_p1 (by decide) (by decide) | exact ⟨by fail, by fail⟩) ⟨by decide, by decide⟩) (fun c4659 => ?_) (fun c4659 => ?_)
                        · skip
                          replace c4659 := hid c4659
                          refine go_toq PM239 (k := 1) (pc' := 277) (L' := [some (.inr (.inr (some 79))), some (.inl p1), some (.inl (dt 80 5)), none, none, some (.inl (-1)), some (.inr (.inl l126_6)), none, some (.inl l126_8), some (.inl l126_9), some (.inl l126_10), none]) (st' := [.inl l126_9]) (w' := (SH, dt)) rfl ?_
                          exact GO.le (j4656 l126_9) ⟨.inl rfl, .inr ⟨rfl, trivial⟩, .inr ⟨rfl, trivial⟩, .inl rfl, .inl rfl, .inr ⟨rfl, trivial⟩, .inr ⟨rfl, trivial⟩, .inl rfl, .inr ⟨rfl, trivial⟩, .inr ⟨rfl, trivial⟩, .inr ⟨rfl, trivial⟩, .inl rfl, trivial⟩
                        · skip
                          refine go_toq PM239 (k := 2) (pc' := 277) (L' := [some (.inr (.inr (some 79))), some (.inl p1), some (.inl (dt 80 5)), none, none, some (.inl (-1)), some (.inr (.inl l126_6)), none, some (.inl l126_8), some (.inl l126_9), some (.inl l126_10), none]) (st' := [.inl l126_8]) (w' := (SH, dt)) rfl ?_
                          exact GO.le (j4656 l126_8) ⟨.inl rfl, .inr ⟨rfl, trivial⟩, .inr ⟨rfl, trivial⟩, .inl rfl, .inl rfl, .inr ⟨rfl, trivial⟩, .inr ⟨rfl, trivial⟩, .inl rfl, .inr ⟨rfl, trivial⟩, .inr ⟨rfl, trivial⟩, .inr ⟨rfl, trivial⟩, .inl rfl, trivial⟩
                      · skip
                        refine go_toq PM239 (k := 2) (pc' := 260) (L' := [some (.inr (.inr (some 79))), some (.inl p1), some (.inl (dt 80 5)), none, none, some (.inl (-1)), some (.inr (.inl l126_6)), none, some (.inl l126_8), some (.inl l126_9), some (.inl l126_10), none]) (st' := [.inr (.inl 1000), .inr (.inl l126_6)]) (w' := (SH, dt)) rfl ?_
                        refine go_smpq PM239 (L' := [some (.inr (.inr (some 79))), some (.inl p1), some (.inl (dt 80 5)), none, none, some (.inl (-1)), some (.inr (.inl l126_6)), none, some (.inl l126_8), some (.inl l126_9), some (.inl l126_10), none]) (st' := [.inr (.inl ((wl l126_6).tdiv (wl 1000)))]) (w' := (SH, dt)) rfl rfl (s_ldiv (by decide)) ?_
                        refine go_toq PM239 (k := 2) (pc' := 277) (L' := [some (.inr (.inr (some 79))), some (.inl p1), some (.inl (dt 80 5)), none, none, some (.inl (-1)), some (.inr (.inl l126_6)), none, some (.inl l126_8), some (.inl l126_9), some (.inl l126_10), none]) (st' := [.inl ((wl l126_6).tdiv (wl 1000))]) (w' := (SH, dt)) rfl ?_
                        exact GO.le (j4656 ((wl l126_6).tdiv (wl 1000))) ⟨.inl rfl, .inr ⟨rfl, trivial⟩, .inr ⟨rfl, trivial⟩, .inl rfl, .inl rfl, .inr ⟨rfl, trivial⟩, .inr ⟨rfl, trivial⟩, .inl rfl, .inr ⟨rfl, trivial⟩, .inr ⟨rfl, trivial⟩, .inr ⟨rfl, trivial⟩, .inl rfl, trivial⟩
                    · skip
                      refine go_retq PM239 (k := 2) (r := some (.inl (-1))) (w1 := (SH, dt)) rfl ?_
                      exact ⟨rfl, ⟨_, rfl, trivial, trivial⟩⟩
                  · skip
                    refine go_toq PM239 (k := 2) (pc' := 135) (L' := [some (.inr (.inr (some 79))), some (.inl p1), some (.inl (dt 80 5)), none, none, some (.inl (-1)), some (.inr (.inl l126_6)), none, some (.inl l126_8), some (.inl l126_9), some (.inl l126_10), none]) (st' := [.inl l126_10, .inr (.inr (some 79))]) (w' := (SH, dt)) rfl ?_
                    refine go_callq PM239 PM238 (Q' := _) rfl rfl rfl rfl (sp_X6_share L xs sio (d + 0) dt hI hM  l126_10 (by first | exact bnd i4626 (by decide) (by decide) | exact bndd i4626 c4652 (by decide) (by decide) | exact ⟨by omega, by omega⟩) (by first | exact True.intro | with_reducible assumption | rfl | omega | trivial)) ?_
                    rintro _ _ ⟨rfl, h4660⟩
                    refine ⟨rfl, ?_⟩
                    rcases h4660 with ⟨v_h4660, rfl, h4660r, h4660⟩
                    refine go_toq PM239 (k := 1) (pc' := 140) (L' := [some (.inr (.inr (some 79))), some (.inl p1), some (.inl (dt 80 5)), none, none, some (.inl (-1)), some (.inr (.inl l126_6)), none, some (.inl l126_8), some (.inl l126_9), some (.inl l126_10), none]) (st' := [.inl (-1), .inl v_h4660]) (w' := (SH, dt)) rfl ?_
                    refine go_callq PM239 PM147 (Q' := _) rfl rfl rfl rfl (sp_X6_apart L xs sio (d + 0) dt hI  v_h4660 (-1) ) ?_
                    rintro _ _ ⟨rfl, h4661⟩
                    refine ⟨rfl, ?_⟩
                    rcases h4661 with ⟨v_h4661, rfl, h4661r, h4661⟩
                    refine go_toq PM239 (k := 9) (pc' := 159) (L' := [some (.inr (.inr (some 79))), some (.inl p1), some (.inl (dt 80 5)), none, none, some (.inl (-1)), some (.inr (.inl l126_6)), none, some (.inl l126_8), some (.inl l126_9), some (.inl l126_10), some (.inl v_h4661)]) (st' := [.inl (7420 + (2 * l126_10)), .inr (.inr (some 80)), .inr (.inl l126_6)]) (w' := (SH, dt)) rfl ?_
                    have r4662 : (-2147483648) ≤ dt 80 ((7420 + (2 * l126_10)).toNat) ∧ dt 80 ((7420 + (2 * l126_10)).toNat) ≤ 2147483647 := InvC_get hI 80 ((7420 + (2 * l126_10)).toNat) rfl rfl
                    have r4663 := MW_h hM (l126_10) ⟨by omega, by omega⟩
                    refine go_smpq PM239 (L' := [some (.inr (.inr (some 79))), some (.inl p1), some (.inl (dt 80 5)), none, none, some (.inl (-1)), some (.inr (.inl l126_6)), none, some (.inl l126_8), some (.inl l126_9), some (.inl l126_10), some (.inl v_h4661)]) (st' := [.inl (dt 80 ((7420 + (2 * l126_10)).toNat)), .inr (.inl l126_6)]) (w' := (SH, dt)) rfl rfl (s_iald (n := 7460) (f := dt 80) rfl ⟨by omega, by omega⟩) ?_
                    refine go_smpq PM239 (L' := [some (.inr (.inr (some 79))), some (.inl p1), some (.inl (dt 80 5)), none, none, some (.inl (-1)), some (.inr (.inl l126_6)), none, some (.inl l126_8), some (.inl l126_9), some (.inl l126_10), some (.inl v_h4661)]) (st' := [.inr (.inl (dt 80 ((7420 + (2 * l126_10)).toNat))), .inr (.inl l126_6)]) (w' := (SH, dt)) rfl rfl (s_i2l ⟨by omega, by omega⟩) ?_
                    have r4664 := wr_RR v_h4661
                    have r4665 := wr_RR v_h4661
                    refine go_toq PM239 (k := 18) (pc' := 191) (L' := [some (.inr (.inr (some 79))), some (.inl p1), some (.inl (dt 80 5)), none, none, some (.inl (-1)), some (.inr (.inl (l126_6 + (((dt 80 ((7420 + (2 * l126_10)).toNat)) * (wr v_h4661)) * (wr v_h4661))))), none, some (.inl l126_8), some (.inl l126_9), some (.inl l126_10), some (.inl v_h4661)]) (st' := [.inl (7420 + (2 * l126_10)), .inr (.inr (some 80)), .inl 1000, .inl v_h4661, .inl l126_8]) (w' := (SH, dt)) rfl ?_
                    refine go_smpq PM239 (L' := [some (.inr (.inr (some 79))), some (.inl p1), some (.inl (dt 80 5)), none, none, some (.inl (-1)), some (.inr (.inl (l126_6 + (((dt 80 ((7420 + (2 * l126_10)).toNat)) * (wr v_h4661)) * (wr v_h4661))))), none, some (.inl l126_8), some (.inl l126_9), some (.inl l126_10), some (.inl v_h4661)]) (st' := [.inl (dt 80 ((7420 + (2 * l126_10)).toNat)), .inl 1000, .inl v_h4661, .inl l126_8]) (w' := (SH, dt)) rfl rfl (s_iald (n := 7460) (f := dt 80) rfl ⟨by omega, by omega⟩) ?_
                    refine go_callq PM239 PM148 (Q' := _) rfl rfl rfl rfl (sp_X6_root L xs sio (d + 0) dt hI  (dt 80 ((7420 + (2 * l126_10)).toNat)) (by first | exact bnd r4662 (by decide) (by decide) | exact ⟨by omega, by omega⟩) ) ?_
                    rintro _ _ ⟨rfl, h4666⟩
                    refine ⟨rfl, ?_⟩
                    rcases h4666 with ⟨v_h4666, rfl, h4666r, h4666⟩
                    refine go_smpq PM239 (L' := [some (.inr (.inr (some 79))), some (.inl p1), some (.inl (dt 80 5)), none, none, some (.inl (-1)), some (.inr (.inl (l126_6 + (((dt 80 ((7420 + (2 * l126_10)).toNat)) * (wr v_h4661)) * (wr v_h4661))))), none, some (.inl l126_8), some (.inl l126_9), some (.inl l126_10), some (.inl v_h4661)]) (st' := [.inl ((wr 1000).tdiv (wr v_h4666)), .inl v_h4661, .inl l126_8]) (w' := (SH, dt)) rfl rfl (s_idiv (by rw [wr_R ⟨by omega, by omega⟩]; omega)) ?_
                    have r4672 := wr_RR v_h4661
                    have r4673 := wr_RR ((wr 1000).tdiv (wr v_h4666))
                    refine go_ifq PM239 (k := 0) (p1 := 206) (p2 := 199) (L' := [some (.inr (.inr (some 79))), some (.inl p1), some (.inl (dt 80 5)), none, none, some (.inl (-1)), some (.inr (.inl (l126_6 + (((dt 80 ((7420 + (2 * l126_10)).toNat)) * (wr v_h4661)) * (wr v_h4661))))), none, some (.inl l126_8), some (.inl l126_9), some (.inl l126_10), some (.inl v_h4661)]) (st' := [.inl l126_8]) (w' := (SH, dt)) rfl (u_le (a := wr v_h4661) (b := wr ((wr 1000).tdiv (wr v_h4666)))) (fun c4671 => ?_) (fun c4671 => ?_)
                    · skip
                      have r4674 : 0 ≤ am_or l126_8 0 ∧ am_or l126_8 0 ≤ 2147483647 := am_or_N (n := 31) ⟨by omega, by omega⟩ ⟨by omega, by omega⟩ (by decide) (by decide)
                      refine go_toq PM239 (k := 6) (pc' := 215) (L' := [some (.inr (.inr (some 79))), some (.inl p1), some (.inl (dt 80 5)), none, none, some (.inl (-1)), some (.inr (.inl (l126_6 + (((dt 80 ((7420 + (2 * l126_10)).toNat)) * (wr v_h4661)) * (wr v_h4661))))), none, some (.inl (am_or l126_8 0)), some (.inl l126_9), some (.inl l126_10), some (.inl v_h4661)]) (st' := [.inl l126_10, .inr (.inr (some 79)), .inl l126_9]) (w' := (SH, dt)) rfl ?_
                      refine go_callq PM239 PM238 (Q' := _) rfl rfl rfl rfl (sp_X6_share L xs sio (d + 0) dt hI hM  l126_10 (by first | exact bnd i4626 (by decide) (by decide) | exact bndd i4626 c4652 (by decide) (by decide) | exact ⟨by omega, by omega⟩) (by first | exact True.intro | with_reducible assumption | rfl | omega | trivial)) ?_
                      rintro _ _ ⟨rfl, h4675⟩
                      refine ⟨rfl, ?_⟩
                      rcases h4675 with ⟨v_h4675, rfl, h4675r, h4675⟩
                      refine go_ifq PM239 (k := 1) (p1 := 231) (p2 := 224) (L' := [some (.inr (.inr (some 79))), some (.inl p1), some (.inl (dt 80 5)), none, none, some (.inl (-1)), some (.inr (.inl (l126_6 + (((dt 80 ((7420 + (2 * l126_10)).toNat)) * (wr v_h4661)) * (wr v_h4661))))), none, some (.inl (am_or l126_8 0)), some (.inl l126_9), some (.inl l126_10), some (.inl v_h4661)]) (st' := [.inl l126_9]) (w' := (SH, dt)) rfl (c_le (a := v_h4675) (b := 499) (by first | exact bnd h4675r (by decide) (by decide) | exact ⟨by fail, by fail⟩) ⟨by decide, by decide⟩) (fun c4678 => ?_) (fun c4678 => ?_)
                      · skip
                        have r4679 : 0 ≤ am_or l126_9 0 ∧ am_or l126_9 0 ≤ 2147483647 := am_or_N (n := 31) ⟨by omega, by omega⟩ ⟨by omega, by omega⟩ (by decide) (by decide)
                        refine go_toq PM239 (k := 5) (pc' := 126) (L' := [some (.inr (.inr (some 79))), some (.inl p1), some (.inl (dt 80 5)), none, none, some (.inl (-1)), some (.inr (.inl (l126_6 + (((dt 80 ((7420 + (2 * l126_10)).toNat)) * (wr v_h4661)) * (wr v_h4661))))), none, some (.inl (am_or l126_8 0)), some (.inl (am_or l126_9 0)), some (.inl (l126_10 + 1)), some (.inl v_h4661)]) (st' := []) (w' := (SH, dt)) rfl ?_
                        exact GO.le (ih_loop4627 (l126_6 + (((dt 80 ((7420 + (2 * l126_10)).toNat)) * (wr v_h4661)) * (wr v_h4661))) (am_or l126_8 0) (am_or l126_9 0) (l126_10 + 1) (by first | exact bnd r4674 (by decide) (by decide) | fail) (by first | exact bnd r4679 (by decide) (by decide) | fail) (by first | exact bndp i4626 (by decide) (by decide) | exact bnde i4626 c4652 (by decide) (by decide) | omega) (by omega)) ⟨.inl rfl, .inl rfl, .inl rfl, .inl rfl, .inl rfl, .inl rfl, .inl rfl, .inl rfl, .inl rfl, .inl rfl, .inl rfl, .inr ⟨rfl, trivial⟩, trivial⟩
                      · skip
                        have r4680 : 1 ≤ am_shl 1 l126_10 ∧ am_shl 1 l126_10 ≤ 1073741824 := shl1_R ⟨by omega, by omega⟩
                        have r4681 : 0 ≤ am_or l126_9 (am_shl 1 l126_10) ∧ am_or l126_9 (am_shl 1 l126_10) ≤ 2147483647 := am_or_N (n := 31) ⟨by omega, by omega⟩ ⟨by omega, by omega⟩ (by decide) (by decide)
                        refine go_toq PM239 (k := 8) (pc' := 126) (L' := [some (.inr (.inr (some 79))), some (.inl p1), some (.inl (dt 80 5)), none, none, some (.inl (-1)), some (.inr (.inl (l126_6 + (((dt 80 ((7420 + (2 * l126_10)).toNat)) * (wr v_h4661)) * (wr v_h4661))))), none, some (.inl (am_or l126_8 0)), some (.inl (am_or l126_9 (am_shl 1 l126_10))), some (.inl (l126_10 + 1)), some (.inl v_h4661)]) (st' := []) (w' := (SH, dt)) rfl ?_
                        exact GO.le (ih_loop4627 (l126_6 + (((dt 80 ((7420 + (2 * l126_10)).toNat)) * (wr v_h4661)) * (wr v_h4661))) (am_or l126_8 0) (am_or l126_9 (am_shl 1 l126_10)) (l126_10 + 1) (by first | exact bnd r4674 (by decide) (by decide) | fail) (by first | exact bnd r4681 (by decide) (by decide) | fail) (by first | exact bndp i4626 (by decide) (by decide) | exact bnde i4626 c4652 (by decide) (by decide) | omega) (by omega)) ⟨.inl rfl, .inl rfl, .inl rfl, .inl rfl, .inl rfl, .inl rfl, .inl rfl, .inl rfl, .inl rfl, .inl rfl, .inl rfl, .inr ⟨rfl, trivial⟩, trivial⟩
                    · skip
                      have r4682 : 1 ≤ am_shl 1 l126_10 ∧ am_shl 1 l126_10 ≤ 1073741824 := shl1_R ⟨by omega, by omega⟩
                      have r4683 : 0 ≤ am_or l126_8 (am_shl 1 l126_10) ∧ am_or l126_8 (am_shl 1 l126_10) ≤ 2147483647 := am_or_N (n := 31) ⟨by omega, by omega⟩ ⟨by omega, by omega⟩ (by decide) (by decide)
                      refine go_toq PM239 (k := 9) (pc' := 215) (L' := [some (.inr (.inr (some 79))), some (.inl p1), some (.inl (dt 80 5)), none, none, some (.inl (-1)), some (.inr (.inl (l126_6 + (((dt 80 ((7420 + (2 * l126_10)).toNat)) * (wr v_h4661)) * (wr v_h4661))))), none, some (.inl (am_or l126_8 (am_shl 1 l126_10))), some (.inl l126_9), some (.inl l126_10), some (.inl v_h4661)]) (st' := [.inl l126_10, .inr (.inr (some 79)), .inl l126_9]) (w' := (SH, dt)) rfl ?_
                      refine go_callq PM239 PM238 (Q' := _) rfl rfl rfl rfl (sp_X6_share L xs sio (d + 0) dt hI hM  l126_10 (by first | exact bnd i4626 (by decide) (by decide) | exact bndd i4626 c4652 (by decide) (by decide) | exact ⟨by omega, by omega⟩) (by first | exact True.intro | with_reducible assumption | rfl | omega | trivial)) ?_
                      rintro _ _ ⟨rfl, h4684⟩
                      refine ⟨rfl, ?_⟩
                      rcases h4684 with ⟨v_h4684, rfl, h4684r, h4684⟩
                      refine go_ifq PM239 (k := 1) (p1 := 231) (p2 := 224) (L' := [some (.inr (.inr (some 79))), some (.inl p1), some (.inl (dt 80 5)), none, none, some (.inl (-1)), some (.inr (.inl (l126_6 + (((dt 80 ((7420 + (2 * l126_10)).toNat)) * (wr v_h4661)) * (wr v_h4661))))), none, some (.inl (am_or l126_8 (am_shl 1 l126_10))), some (.inl l126_9), some (.inl l126_10), some (.inl v_h4661)]) (st' := [.inl l126_9]) (w' := (SH, dt)) rfl (c_le (a := v_h4684) (b := 499) (by first | exact bnd h4684r (by decide) (by decide) | exact ⟨by fail, by fail⟩) ⟨by decide, by decide⟩) (fun c4687 => ?_) (fun c4687 => ?_)
                      · skip
                        have r4688 : 0 ≤ am_or l126_9 0 ∧ am_or l126_9 0 ≤ 2147483647 := am_or_N (n := 31) ⟨by omega, by omega⟩ ⟨by omega, by omega⟩ (by decide) (by decide)
                        refine go_toq PM239 (k := 5) (pc' := 126) (L' := [some (.inr (.inr (some 79))), some (.inl p1), some (.inl (dt 80 5)), none, none, some (.inl (-1)), some (.inr (.inl (l126_6 + (((dt 80 ((7420 + (2 * l126_10)).toNat)) * (wr v_h4661)) * (wr v_h4661))))), none, some (.inl (am_or l126_8 (am_shl 1 l126_10))), some (.inl (am_or l126_9 0)), some (.inl (l126_10 + 1)), some (.inl v_h4661)]) (st' := []) (w' := (SH, dt)) rfl ?_
                        exact GO.le (ih_loop4627 (l126_6 + (((dt 80 ((7420 + (2 * l126_10)).toNat)) * (wr v_h4661)) * (wr v_h4661))) (am_or l126_8 (am_shl 1 l126_10)) (am_or l126_9 0) (l126_10 + 1) (by first | exact bnd r4683 (by decide) (by decide) | fail) (by first | exact bnd r4688 (by decide) (by decide) | fail) (by first | exact bndp i4626 (by decide) (by decide) | exact bnde i4626 c4652 (by decide) (by decide) | omega) (by omega)) ⟨.inl rfl, .inl rfl, .inl rfl, .inl rfl, .inl rfl, .inl rfl, .inl rfl, .inl rfl, .inl rfl, .inl rfl, .inl rfl, .inr ⟨rfl, trivial⟩, trivial⟩
                      · skip
                        have r4689 : 1 ≤ am_shl 1 l126_10 ∧ am_shl 1 l126_10 ≤ 1073741824 := shl1_R ⟨by omega, by omega⟩
                        have r4690 : 0 ≤ am_or l126_9 (am_shl 1 l126_10) ∧ am_or l126_9 (am_shl 1 l126_10) ≤ 2147483647 := am_or_N (n := 31) ⟨by omega, by omega⟩ ⟨by omega, by omega⟩ (by decide) (by decide)
                        refine go_toq PM239 (k := 8) (pc' := 126) (L' := [some (.inr (.inr (some 79))), some (.inl p1), some (.inl (dt 80 5)), none, none, some (.inl (-1)), some (.inr (.inl (l126_6 + (((dt 80 ((7420 + (2 * l126_10)).toNat)) * (wr v_h4661)) * (wr v_h4661))))), none, some (.inl (am_or l126_8 (am_shl 1 l126_10))), some (.inl (am_or l126_9 (am_shl 1 l126_10))), some (.inl (l126_10 + 1)), some (.inl v_h4661)]) (st' := []) (w' := (SH, dt)) rfl ?_
                        exact GO.le (ih_loop4627 (l126_6 + (((dt 80 ((7420 + (2 * l126_10)).toNat)) * (wr v_h4661)) * (wr v_h4661))) (am_or l126_8 (am_shl 1 l126_10)) (am_or l126_9 (am_shl 1 l126_10)) (l126_10 + 1) (by first | exact bnd r4683 (by decide) (by decide) | fail) (by first | exact bnd r4690 (by decide) (by decide) | fail) (by first | exact bndp i4626 (by decide) (by decide) | exact bnde i4626 c4652 (by decide) (by decide) | omega) (by omega)) ⟨.inl rfl, .inl rfl, .inl rfl, .inl rfl, .inl rfl, .inl rfl, .inl rfl, .inl rfl, .inl rfl, .inl rfl, .inl rfl, .inr ⟨rfl, trivial⟩, trivial⟩
              exact GO.le (loop4627 _ 0 0 0 0 ⟨by decide, by decide⟩ ⟨by decide, by decide⟩ ⟨by decide, by decide⟩ (Nat.lt_succ_self _)) ⟨.inl rfl, .inl rfl, .inl rfl, .inr ⟨rfl, trivial⟩, .inr ⟨rfl, trivial⟩, .inl rfl, .inl rfl, .inl rfl, .inl rfl, .inl rfl, .inl rfl, .inl rfl, trivial⟩
          · skip
            refine go_toq PM239 (k := 8) (pc' := 67) (L' := [some (.inr (.inr (some 79))), some (.inl p1), some (.inl (dt 80 5)), some (.inl l48_3), some (.inl l48_4), some (.inl l48_5), none, none, none, none, none, none]) (st' := [.inl (7420 + (2 * l48_5)), .inr (.inr (some 80)), .inl l48_3]) (w' := (SH, dt)) rfl ?_
            have r4691 : (-2147483648) ≤ dt 80 ((7420 + (2 * l48_5)).toNat) ∧ dt 80 ((7420 + (2 * l48_5)).toNat) ≤ 2147483647 := InvC_get hI 80 ((7420 + (2 * l48_5)).toNat) rfl rfl
            have r4692 := MW_h hM (l48_5) ⟨by omega, by omega⟩
            refine go_smpq PM239 (L' := [some (.inr (.inr (some 79))), some (.inl p1), some (.inl (dt 80 5)), some (.inl l48_3), some (.inl l48_4), some (.inl l48_5), none, none, none, none, none, none]) (st' := [.inl (dt 80 ((7420 + (2 * l48_5)).toNat)), .inl l48_3]) (w' := (SH, dt)) rfl rfl (s_iald (n := 7460) (f := dt 80) rfl ⟨by omega, by omega⟩) ?_
            refine go_toq PM239 (k := 12) (pc' := 86) (L' := [some (.inr (.inr (some 79))), some (.inl p1), some (.inl (dt 80 5)), some (.inl (l48_3 + (dt 80 ((7420 + (2 * l48_5)).toNat)))), some (.inl l48_4), some (.inl l48_5), none, none, none, none, none, none]) (st' := [.inl ((7420 + (2 * l48_5)) + 1), .inr (.inr (some 80)), .inl l48_4]) (w' := (SH, dt)) rfl ?_
            have r4693 : (-2147483648) ≤ dt 80 (((7420 + (2 * l48_5)) + 1).toNat) ∧ dt 80 (((7420 + (2 * l48_5)) + 1).toNat) ≤ 2147483647 := InvC_get hI 80 (((7420 + (2 * l48_5)) + 1).toNat) rfl rfl
            refine go_smpq PM239 (L' := [some (.inr (.inr (some 79))), some (.inl p1), some (.inl (dt 80 5)), some (.inl (l48_3 + (dt 80 ((7420 + (2 * l48_5)).toNat)))), some (.inl l48_4), some (.inl l48_5), none, none, none, none, none, none]) (st' := [.inl (dt 80 (((7420 + (2 * l48_5)) + 1).toNat)), .inl l48_4]) (w' := (SH, dt)) rfl rfl (s_iald (n := 7460) (f := dt 80) rfl ⟨by omega, by omega⟩) ?_
            refine go_toq PM239 (k := 4) (pc' := 48) (L' := [some (.inr (.inr (some 79))), some (.inl p1), some (.inl (dt 80 5)), some (.inl (l48_3 + (dt 80 ((7420 + (2 * l48_5)).toNat)))), some (.inl (l48_4 + (dt 80 (((7420 + (2 * l48_5)) + 1).toNat)))), some (.inl (l48_5 + 1)), none, none, none, none, none, none]) (st' := []) (w' := (SH, dt)) rfl ?_
            exact GO.le (ih_loop47 (l48_3 + (dt 80 ((7420 + (2 * l48_5)).toNat))) (l48_4 + (dt 80 (((7420 + (2 * l48_5)) + 1).toNat))) (l48_5 + 1) (by first | exact bndp i46 (by decide) (by decide) | exact bnde i46 c52 (by decide) (by decide) | omega) (by omega)) ⟨.inl rfl, .inl rfl, .inl rfl, .inl rfl, .inl rfl, .inl rfl, .inl rfl, .inl rfl, .inl rfl, .inl rfl, .inl rfl, .inl rfl, trivial⟩
      exact GO.le (loop47 _ 0 0 0 ⟨by decide, by decide⟩ (Nat.lt_succ_self _)) ⟨.inl rfl, .inl rfl, .inl rfl, .inl rfl, .inl rfl, .inl rfl, .inl rfl, .inl rfl, .inl rfl, .inl rfl, .inl rfl, .inl rfl, trivial⟩
    · skip
      refine go_retq PM239 (k := 2) (r := some (.inl (-1))) (w1 := (SH, dt)) rfl ?_
      exact ⟨rfl, ⟨_, rfl, trivial, trivial⟩⟩
set_option maxRecDepth 20000 in
theorem sp_X6_level (L : Nat) (xs : Nat → Int32) (sio : Option Nat) (d : Nat) (dt : Nat → Nat → Int) (hI : InvC dt)  (p1 : Int)  : GO (am_XX L xs sio) (d) 243 0 [some (.inl p1), none] [] (SH, dt) (fun r w2 => w2 = (SH, dt) ∧ ((∃ v : Int, r = some (.inl v) ∧ True ∧ True))) := by
  have r2 := wr_RR p1
  refine go_ifq PM243 (k := 1) (p1 := 7) (p2 := 4) (L' := [some (.inl p1), none]) (st' := []) (w' := (SH, dt)) rfl (u_ne (a := wr p1) (b := 0)) (fun c1 => ?_) (fun c1 => ?_)
  · skip
    refine go_toq PM243 (k := 2) (pc' := 9) (L' := [some (.inl p1), some (.inl 0)]) (st' := []) (w' := (SH, dt)) rfl ?_
    have loop7 : ∀ (k_ : Nat) (l9_1 : Int) (i6 : 0 ≤ l9_1 ∧ l9_1 ≤ 30), (31 - l9_1).toNat < k_ → GO (am_XX L xs sio) (d) 243 9 [some (.inl p1), some (.inl l9_1)] [] (SH, dt) (fun r w2 => w2 = (SH, dt) ∧ ((∃ v : Int, r = some (.inl v) ∧ True ∧ True))) := by
      intro k_
      induction k_ with
      | zero => intro l9_1 i6 hm; exact absurd hm (Nat.not_lt_zero _)
      | succ k_ ih_loop7 =>
        intro l9_1 i6 hm
        have hz : l9_1 = 30 → am_shr p1 (l9_1 + 1) ≤ 0 := fun e => by rw [e]; exact shr31 p1
        replace hz := hid hz
        have r8 : -2147483648 ≤ am_shr p1 (l9_1 + 1) ∧ am_shr p1 (l9_1 + 1) ≤ 2147483647 := am_shr_R
        refine go_ifq PM243 (k := 5) (p1 := 23) (p2 := 17) (L' := [some (.inl p1), some (.inl l9_1)]) (st' := []) (w' := (SH, dt)) rfl (z_le (a := am_shr p1 (l9_1 + 1)) (by first | exact bnd r8 (by decide) (by decide) | exact ⟨by fail, by fail⟩)) (fun c10 => ?_) (fun c10 => ?_)
        · skip
          have r11 : 1 ≤ am_shl 1 l9_1 ∧ am_shl 1 l9_1 ≤ 1073741824 := shl1_R ⟨by omega, by omega⟩
          have r12 : -2147483648 ≤ am_shr ((p1 - (am_shl 1 l9_1)) * 10) l9_1 ∧ am_shr ((p1 - (am_shl 1 l9_1)) * 10) l9_1 ≤ 2147483647 := am_shr_R
          refine go_retq PM243 (k := 13) (r := some (.inl ((10 * l9_1) + (am_shr ((p1 - (am_shl 1 l9_1)) * 10) l9_1)))) (w1 := (SH, dt)) rfl ?_
          exact ⟨rfl, ⟨_, rfl, trivial, trivial⟩⟩
        · skip
          refine go_toq PM243 (k := 2) (pc' := 9) (L' := [some (.inl p1), some (.inl (l9_1 + 1))]) (st' := []) (w' := (SH, dt)) rfl ?_
          exact GO.le (ih_loop7 (l9_1 + 1) (by first | exact bndp i6 (by decide) (by decide) | (have z0_ := unhid hz; omega)) (by omega)) ⟨.inl rfl, .inl rfl, trivial⟩
    exact GO.le (loop7 _ 0 ⟨by decide, by decide⟩ (Nat.lt_succ_self _)) ⟨.inl rfl, .inl rfl, trivial⟩
  · skip
    refine go_retq PM243 (k := 1) (r := some (.inl (-50))) (w1 := (SH, dt)) rfl ?_
    exact ⟨rfl, ⟨_, rfl, trivial, trivial⟩⟩
set_option maxRecDepth 20000 in
theorem sp_X6_look (L : Nat) (xs : Nat → Int32) (sio : Option Nat) (d : Nat) (dt : Nat → Nat → Int) (hI : InvC dt)  (p1 : Int) (h_p1 : (-2147483648) ≤ p1 ∧ p1 ≤ 2147483647)  : GO (am_XX L xs sio) (d) 248 0 [some (.inr (.inr (some 79))), some (.inl p1)] [] (SH, dt) (fun r w2 => w2 = (SH, dt) ∧ ((r = some (.inl (dt 80 1)) ∧ (p1 = 0)) ∨ (r = some (.inl (dt 80 2)) ∧ (p1 = 1)) ∨ (r = some (.inl (dt 80 3)) ∧ (p1 = 2)) ∨ (r = some (.inl (dt 80 4)) ∧ (p1 = 3)) ∨ (r = some (.inl (dt 80 5)) ∧ (p1 = 4)) ∨ (r = some (.inl (dt 80 0)) ∧ (p1 = 5)) ∨ (r = some (.inl 1) ∧ (p1 = 6) ∧ (¬ dt 79 2 = 0)) ∨ (r = some (.inl 0) ∧ (p1 = 6) ∧ (dt 79 2 = 0)) ∨ (r = some (.inl (-1)) ∧ (¬ (0 ≤ p1 ∧ p1 ≤ 6))))) := by
  have r1 := wr_RR p1
  refine go_toq PM248 (k := 1) (pc' := 1) (L' := [some (.inr (.inr (some 79))), some (.inl p1)]) (st' := [.inl p1]) (w' := (SH, dt)) rfl ?_
  have e3 : wr p1 = p1 := wr_R ⟨by omega, by omega⟩
  by_cases c2 : wr p1 < 0 ∨ 6 < wr p1
  · refine go_swoq PM248 (p1 := 99) (lo := 0) (hi := 6) rfl rfl c2 ?_
    refine go_retq PM248 (k := 1) (r := some (.inl (-1))) (w1 := (SH, dt)) rfl ?_
    first | exact ⟨rfl, (Or.inl ⟨rfl, by first | exact True.intro | with_reducible assumption | rfl | fail | trivial⟩)⟩ | exact ⟨rfl, (Or.inr (Or.inl ⟨rfl, by first | exact True.intro | with_reducible assumption | rfl | fail | trivial⟩))⟩ | exact ⟨rfl, (Or.inr (Or.inr (Or.inl ⟨rfl, by first | exact True.intro | with_reducible assumption | rfl | fail | trivial⟩)))⟩ | exact ⟨rfl, (Or.inr (Or.inr (Or.inr (Or.inl ⟨rfl, by first | exact True.intro | with_reducible assumption | rfl | fail | trivial⟩))))⟩ | exact ⟨rfl, (Or.inr (Or.inr (Or.inr (Or.inr (Or.inl ⟨rfl, by first | exact True.intro | with_reducible assumption | rfl | fail | trivial⟩)))))⟩ | exact ⟨rfl, (Or.inr (Or.inr (Or.inr (Or.inr (Or.inr (Or.inl ⟨rfl, by first | exact True.intro | with_reducible assumption | rfl | fail | trivial⟩))))))⟩ | exact ⟨rfl, (Or.inr (Or.inr (Or.inr (Or.inr (Or.inr (Or.inr (Or.inr (Or.inr ⟨rfl, by first | exact True.intro | with_reducible assumption | rfl | omega | trivial⟩))))))))⟩
  · have c4 : wr p1 = 0 ∨ wr p1 = 1 ∨ wr p1 = 2 ∨ wr p1 = 3 ∨ wr p1 = 4 ∨ wr p1 = 5 ∨ wr p1 = 6 := by omega
    rcases c4 with c4 | c4 | c4 | c4 | c4 | c4 | c4
    · refine go_swiq PM248 (v := 0) (p1 := 44) (lo := 0) (hi := 6) rfl c4 (by decide) rfl ?_
      refine go_toq PM248 (k := 3) (pc' := 49) (L' := [some (.inr (.inr (some 79))), some (.inl p1)]) (st' := [.inl 1, .inr (.inr (some 80))]) (w' := (SH, dt)) rfl ?_
      have r5 : (-2147483648) ≤ dt 80 1 ∧ dt 80 1 ≤ 2147483647 := InvC_get hI 80 1 rfl rfl
      refine go_smpq PM248 (L' := [some (.inr (.inr (some 79))), some (.inl p1)]) (st' := [.inl (dt 80 1)]) (w' := (SH, dt)) rfl rfl (s_iald (n := 7460) (f := dt 80) rfl ⟨by decide, by decide⟩) ?_
      refine go_retq PM248 (k := 0) (r := some (.inl (dt 80 1))) (w1 := (SH, dt)) rfl ?_
      first | exact ⟨rfl, (Or.inl ⟨rfl, by first | exact True.intro | with_reducible assumption | rfl | omega | trivial⟩)⟩ | exact ⟨rfl, (Or.inr (Or.inl ⟨rfl, by first | exact True.intro | with_reducible assumption | rfl | fail | trivial⟩))⟩ | exact ⟨rfl, (Or.inr (Or.inr (Or.inl ⟨rfl, by first | exact True.intro | with_reducible assumption | rfl | fail | trivial⟩)))⟩ | exact ⟨rfl, (Or.inr (Or.inr (Or.inr (Or.inl ⟨rfl, by first | exact True.intro | with_reducible assumption | rfl | fail | trivial⟩))))⟩ | exact ⟨rfl, (Or.inr (Or.inr (Or.inr (Or.inr (Or.inl ⟨rfl, by first | exact True.intro | with_reducible assumption | rfl | fail | trivial⟩)))))⟩ | exact ⟨rfl, (Or.inr (Or.inr (Or.inr (Or.inr (Or.inr (Or.inl ⟨rfl, by first | exact True.intro | with_reducible assumption | rfl | fail | trivial⟩))))))⟩
    · refine go_swiq PM248 (v := 1) (p1 := 51) (lo := 0) (hi := 6) rfl c4 (by decide) rfl ?_
      refine go_toq PM248 (k := 3) (pc' := 56) (L' := [some (.inr (.inr (some 79))), some (.inl p1)]) (st' := [.inl 2, .inr (.inr (some 80))]) (w' := (SH, dt)) rfl ?_
      have r6 : (-2147483648) ≤ dt 80 2 ∧ dt 80 2 ≤ 2147483647 := InvC_get hI 80 2 rfl rfl
      refine go_smpq PM248 (L' := [some (.inr (.inr (some 79))), some (.inl p1)]) (st' := [.inl (dt 80 2)]) (w' := (SH, dt)) rfl rfl (s_iald (n := 7460) (f := dt 80) rfl ⟨by decide, by decide⟩) ?_
      refine go_retq PM248 (k := 0) (r := some (.inl (dt 80 2))) (w1 := (SH, dt)) rfl ?_
      first | exact ⟨rfl, (Or.inl ⟨rfl, by first | exact True.intro | with_reducible assumption | rfl | fail | trivial⟩)⟩ | exact ⟨rfl, (Or.inr (Or.inl ⟨rfl, by first | exact True.intro | with_reducible assumption | rfl | omega | trivial⟩))⟩ | exact ⟨rfl, (Or.inr (Or.inr (Or.inl ⟨rfl, by first | exact True.intro | with_reducible assumption | rfl | fail | trivial⟩)))⟩ | exact ⟨rfl, (Or.inr (Or.inr (Or.inr (Or.inl ⟨rfl, by first | exact True.intro | with_reducible assumption | rfl | fail | trivial⟩))))⟩ | exact ⟨rfl, (Or.inr (Or.inr (Or.inr (Or.inr (Or.inl ⟨rfl, by first | exact True.intro | with_reducible assumption | rfl | fail | trivial⟩)))))⟩ | exact ⟨rfl, (Or.inr (Or.inr (Or.inr (Or.inr (Or.inr (Or.inl ⟨rfl, by first | exact True.intro | with_reducible assumption | rfl | fail | trivial⟩))))))⟩
    · refine go_swiq PM248 (v := 2) (p1 := 58) (lo := 0) (hi := 6) rfl c4 (by decide) rfl ?_
      refine go_toq PM248 (k := 3) (pc' := 63) (L' := [some (.inr (.inr (some 79))), some (.inl p1)]) (st' := [.inl 3, .inr (.inr (some 80))]) (w' := (SH, dt)) rfl ?_
      have r7 : (-2147483648) ≤ dt 80 3 ∧ dt 80 3 ≤ 2147483647 := InvC_get hI 80 3 rfl rfl
      refine go_smpq PM248 (L' := [some (.inr (.inr (some 79))), some (.inl p1)]) (st' := [.inl (dt 80 3)]) (w' := (SH, dt)) rfl rfl (s_iald (n := 7460) (f := dt 80) rfl ⟨by decide, by decide⟩) ?_
      refine go_retq PM248 (k := 0) (r := some (.inl (dt 80 3))) (w1 := (SH, dt)) rfl ?_
      first | exact ⟨rfl, (Or.inl ⟨rfl, by first | exact True.intro | with_reducible assumption | rfl | fail | trivial⟩)⟩ | exact ⟨rfl, (Or.inr (Or.inl ⟨rfl, by first | exact True.intro | with_reducible assumption | rfl | fail | trivial⟩))⟩ | exact ⟨rfl, (Or.inr (Or.inr (Or.inl ⟨rfl, by first | exact True.intro | with_reducible assumption | rfl | omega | trivial⟩)))⟩ | exact ⟨rfl, (Or.inr (Or.inr (Or.inr (Or.inl ⟨rfl, by first | exact True.intro | with_reducible assumption | rfl | fail | trivial⟩))))⟩ | exact ⟨rfl, (Or.inr (Or.inr (Or.inr (Or.inr (Or.inl ⟨rfl, by first | exact True.intro | with_reducible assumption | rfl | fail | trivial⟩)))))⟩ | exact ⟨rfl, (Or.inr (Or.inr (Or.inr (Or.inr (Or.inr (Or.inl ⟨rfl, by first | exact True.intro | with_reducible assumption | rfl | fail | trivial⟩))))))⟩
    · refine go_swiq PM248 (v := 3) (p1 := 65) (lo := 0) (hi := 6) rfl c4 (by decide) rfl ?_
      refine go_toq PM248 (k := 3) (pc' := 70) (L' := [some (.inr (.inr (some 79))), some (.inl p1)]) (st' := [.inl 4, .inr (.inr (some 80))]) (w' := (SH, dt)) rfl ?_
      have r8 : (-2147483648) ≤ dt 80 4 ∧ dt 80 4 ≤ 2147483647 := InvC_get hI 80 4 rfl rfl
      refine go_smpq PM248 (L' := [some (.inr (.inr (some 79))), some (.inl p1)]) (st' := [.inl (dt 80 4)]) (w' := (SH, dt)) rfl rfl (s_iald (n := 7460) (f := dt 80) rfl ⟨by decide, by decide⟩) ?_
      refine go_retq PM248 (k := 0) (r := some (.inl (dt 80 4))) (w1 := (SH, dt)) rfl ?_
      first | exact ⟨rfl, (Or.inl ⟨rfl, by first | exact True.intro | with_reducible assumption | rfl | fail | trivial⟩)⟩ | exact ⟨rfl, (Or.inr (Or.inl ⟨rfl, by first | exact True.intro | with_reducible assumption | rfl | fail | trivial⟩))⟩ | exact ⟨rfl, (Or.inr (Or.inr (Or.inl ⟨rfl, by first | exact True.intro | with_reducible assumption | rfl | fail | trivial⟩)))⟩ | exact ⟨rfl, (Or.inr (Or.inr (Or.inr (Or.inl ⟨rfl, by first | exact True.intro | with_reducible assumption | rfl | omega | trivial⟩))))⟩ | exact ⟨rfl, (Or.inr (Or.inr (Or.inr (Or.inr (Or.inl ⟨rfl, by first | exact True.intro | with_reducible assumption | rfl | fail | trivial⟩)))))⟩ | exact ⟨rfl, (Or.inr (Or.inr (Or.inr (Or.inr (Or.inr (Or.inl ⟨rfl, by first | exact True.intro | with_reducible assumption | rfl | fail | trivial⟩))))))⟩
    · refine go_swiq PM248 (v := 4) (p1 := 72) (lo := 0) (hi := 6) rfl c4 (by decide) rfl ?_
      refine go_toq PM248 (k := 3) (pc' := 77) (L' := [some (.inr (.inr (some 79))), some (.inl p1)]) (st' := [.inl 5, .inr (.inr (some 80))]) (w' := (SH, dt)) rfl ?_
      have r9 : (-2147483648) ≤ dt 80 5 ∧ dt 80 5 ≤ 2147483647 := InvC_get hI 80 5 rfl rfl
      refine go_smpq PM248 (L' := [some (.inr (.inr (some 79))), some (.inl p1)]) (st' := [.inl (dt 80 5)]) (w' := (SH, dt)) rfl rfl (s_iald (n := 7460) (f := dt 80) rfl ⟨by decide, by decide⟩) ?_
      refine go_retq PM248 (k := 0) (r := some (.inl (dt 80 5))) (w1 := (SH, dt)) rfl ?_
      first | exact ⟨rfl, (Or.inl ⟨rfl, by first | exact True.intro | with_reducible assumption | rfl | fail | trivial⟩)⟩ | exact ⟨rfl, (Or.inr (Or.inl ⟨rfl, by first | exact True.intro | with_reducible assumption | rfl | fail | trivial⟩))⟩ | exact ⟨rfl, (Or.inr (Or.inr (Or.inl ⟨rfl, by first | exact True.intro | with_reducible assumption | rfl | fail | trivial⟩)))⟩ | exact ⟨rfl, (Or.inr (Or.inr (Or.inr (Or.inl ⟨rfl, by first | exact True.intro | with_reducible assumption | rfl | fail | trivial⟩))))⟩ | exact ⟨rfl, (Or.inr (Or.inr (Or.inr (Or.inr (Or.inl ⟨rfl, by first | exact True.intro | with_reducible assumption | rfl | omega | trivial⟩)))))⟩ | exact ⟨rfl, (Or.inr (Or.inr (Or.inr (Or.inr (Or.inr (Or.inl ⟨rfl, by first | exact True.intro | with_reducible assumption | rfl | fail | trivial⟩))))))⟩
    · refine go_swiq PM248 (v := 5) (p1 := 79) (lo := 0) (hi := 6) rfl c4 (by decide) rfl ?_
      refine go_toq PM248 (k := 3) (pc' := 84) (L' := [some (.inr (.inr (some 79))), some (.inl p1)]) (st' := [.inl 0, .inr (.inr (some 80))]) (w' := (SH, dt)) rfl ?_
      have r10 : (-2147483648) ≤ dt 80 0 ∧ dt 80 0 ≤ 2147483647 := InvC_get hI 80 0 rfl rfl
      refine go_smpq PM248 (L' := [some (.inr (.inr (some 79))), some (.inl p1)]) (st' := [.inl (dt 80 0)]) (w' := (SH, dt)) rfl rfl (s_iald (n := 7460) (f := dt 80) rfl ⟨by decide, by decide⟩) ?_
      refine go_retq PM248 (k := 0) (r := some (.inl (dt 80 0))) (w1 := (SH, dt)) rfl ?_
      first | exact ⟨rfl, (Or.inl ⟨rfl, by first | exact True.intro | with_reducible assumption | rfl | fail | trivial⟩)⟩ | exact ⟨rfl, (Or.inr (Or.inl ⟨rfl, by first | exact True.intro | with_reducible assumption | rfl | fail | trivial⟩))⟩ | exact ⟨rfl, (Or.inr (Or.inr (Or.inl ⟨rfl, by first | exact True.intro | with_reducible assumption | rfl | fail | trivial⟩)))⟩ | exact ⟨rfl, (Or.inr (Or.inr (Or.inr (Or.inl ⟨rfl, by first | exact True.intro | with_reducible assumption | rfl | fail | trivial⟩))))⟩ | exact ⟨rfl, (Or.inr (Or.inr (Or.inr (Or.inr (Or.inl ⟨rfl, by first | exact True.intro | with_reducible assumption | rfl | fail | trivial⟩)))))⟩ | exact ⟨rfl, (Or.inr (Or.inr (Or.inr (Or.inr (Or.inr (Or.inl ⟨rfl, by first | exact True.intro | with_reducible assumption | rfl | omega | trivial⟩))))))⟩
    · refine go_swiq PM248 (v := 6) (p1 := 86) (lo := 0) (hi := 6) rfl c4 (by decide) rfl ?_
      have r11 : 0 ≤ dt 79 2 ∧ dt 79 2 ≤ 1 := InvC_get hI 79 2 rfl rfl
      refine go_ifq PM248 (k := 2) (p1 := 97) (p2 := 93) (L' := [some (.inr (.inr (some 79))), some (.inl p1)]) (st' := []) (w' := (SH, dt)) rfl (z_eq (a := dt 79 2) (by first | exact bnd r11 (by decide) (by decide) | exact ⟨by fail, by fail⟩)) (fun c12 => ?_) (fun c12 => ?_)
      · skip
        refine go_retq PM248 (k := 1) (r := some (.inl 0)) (w1 := (SH, dt)) rfl ?_
        first | exact ⟨rfl, (Or.inl ⟨rfl, by first | exact True.intro | with_reducible assumption | rfl | fail | trivial⟩)⟩ | exact ⟨rfl, (Or.inr (Or.inl ⟨rfl, by first | exact True.intro | with_reducible assumption | rfl | fail | trivial⟩))⟩ | exact ⟨rfl, (Or.inr (Or.inr (Or.inl ⟨rfl, by first | exact True.intro | with_reducible assumption | rfl | fail | trivial⟩)))⟩ | exact ⟨rfl, (Or.inr (Or.inr (Or.inr (Or.inl ⟨rfl, by first | exact True.intro | with_reducible assumption | rfl | fail | trivial⟩))))⟩ | exact ⟨rfl, (Or.inr (Or.inr (Or.inr (Or.inr (Or.inl ⟨rfl, by first | exact True.intro | with_reducible assumption | rfl | fail | trivial⟩)))))⟩ | exact ⟨rfl, (Or.inr (Or.inr (Or.inr (Or.inr (Or.inr (Or.inl ⟨rfl, by first | exact True.intro | with_reducible assumption | rfl | fail | trivial⟩))))))⟩ | exact ⟨rfl, (Or.inr (Or.inr (Or.inr (Or.inr (Or.inr (Or.inr (Or.inr (Or.inl ⟨rfl, ⟨by first | exact True.intro | with_reducible assumption | rfl | omega | trivial, by first | exact True.intro | with_reducible assumption | rfl | fail | trivial⟩⟩))))))))⟩
      · skip
        have qc12 : 1 ≤ dt 79 2 := by omega
        replace c12 := hid c12
        refine go_retq PM248 (k := 2) (r := some (.inl 1)) (w1 := (SH, dt)) rfl ?_
        first | exact ⟨rfl, (Or.inl ⟨rfl, by first | exact True.intro | with_reducible assumption | exact unhid (by with_reducible assumption) | rfl | fail | trivial⟩)⟩ | exact ⟨rfl, (Or.inr (Or.inl ⟨rfl, by first | exact True.intro | with_reducible assumption | exact unhid (by with_reducible assumption) | rfl | fail | trivial⟩))⟩ | exact ⟨rfl, (Or.inr (Or.inr (Or.inl ⟨rfl, by first | exact True.intro | with_reducible assumption | exact unhid (by with_reducible assumption) | rfl | fail | trivial⟩)))⟩ | exact ⟨rfl, (Or.inr (Or.inr (Or.inr (Or.inl ⟨rfl, by first | exact True.intro | with_reducible assumption | exact unhid (by with_reducible assumption) | rfl | fail | trivial⟩))))⟩ | exact ⟨rfl, (Or.inr (Or.inr (Or.inr (Or.inr (Or.inl ⟨rfl, by first | exact True.intro | with_reducible assumption | exact unhid (by with_reducible assumption) | rfl | fail | trivial⟩)))))⟩ | exact ⟨rfl, (Or.inr (Or.inr (Or.inr (Or.inr (Or.inr (Or.inl ⟨rfl, by first | exact True.intro | with_reducible assumption | exact unhid (by with_reducible assumption) | rfl | fail | trivial⟩))))))⟩ | exact ⟨rfl, (Or.inr (Or.inr (Or.inr (Or.inr (Or.inr (Or.inr (Or.inl ⟨rfl, ⟨by first | exact True.intro | with_reducible assumption | exact unhid (by with_reducible assumption) | rfl | omega | trivial, by first | exact True.intro | with_reducible assumption | exact unhid (by with_reducible assumption) | rfl | fail | trivial⟩⟩)))))))⟩
