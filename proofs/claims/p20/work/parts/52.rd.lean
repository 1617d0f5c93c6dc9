theorem PS_unit2 {g g' : Nat → Int} {a b op : Int} (e : g' = g) (h5 : g (2 * a.toNat) = op) (ha : 0 ≤ a) (ho : 0 ≤ op ∧ op ≤ 6) (hb : b = a + 1) : PS g' a b := by
  subst e; exact PS_unit (g := g') ha h5 ho hb
theorem AGR_4 {g0 g1 g1' g2 : Nat → Int} {a a1 : Int} (e : g2 = g1) (h : AGR g1 g1' a1) (e2 : g1' = g0) (ha : a1 = a) : AGR g2 g0 a := by
  subst e; subst e2; subst ha; exact h
set_option maxRecDepth 20000 in
theorem sp_X6_bad (L : Nat) (xs : Nat → Int32) (sio : Option Nat) (d : Nat) (dt : Nat → Nat → Int) (hI : InvC dt)  (p1 : Int) (h_p1 : (-2147483648) ≤ p1 ∧ p1 ≤ 2147483647)  : GO (am_XX L xs sio) (d) 160 0 [some (.inr (.inr (some 79))), some (.inl p1)] [] (SH, dt) (fun r w2 => ∃ dt2 : Nat → Nat → Int, w2 = (SH, dt2) ∧ InvC dt2 ∧ Fr [79] dt dt2 ∧ ((r = some (.inl 0) ∧ (dt2 79 2 = dt 79 2) ∧ (dt2 79 9 = dt 79 9) ∧ (dt2 79 10 = dt 79 10) ∧ (dt2 79 11 = dt 79 11) ∧ (dt2 79 12 = dt 79 12) ∧ (dt2 79 20 = dt 79 20)))) := by
  have hF : Fr [79] dt dt := Fr_refl
  have r1 : 0 ≤ dt 79 15 ∧ dt 79 15 ≤ 500 := InvC_get hI 79 15 rfl rfl
  have r2 : 0 ≤ dt 79 11 ∧ dt 79 11 ≤ 510 := InvC_get hI 79 11 rfl rfl
  have r3 : 0 ≤ dt 79 10 ∧ dt 79 10 ≤ 24 := InvC_get hI 79 10 rfl rfl
  refine go_toq PM160 (k := 2) (pc' := 2) (L' := [some (.inr (.inr (some 79))), some (.inl p1)]) (st' := [.inl p1, .inr (.inr (some 79))]) (w' := (SH, dt)) rfl ?_
  have hI4 : InvC (u2 dt 79 17 p1) := InvC_u2 hI (lo := -2147483648) (hi := 2147483647) rfl rfl rfl (by first | exact bnd1 h_p1 (by decide) | fail) (by first | exact bnd2 h_p1 (by decide) | fail)
  have hF5 : Fr [79] dt (u2 dt 79 17 p1) := Fr_u2 hF (by decide)
  have w6 : (u2 dt 79 17 p1) 79 2 = dt 79 2 := rfl
  have w7 : (u2 dt 79 17 p1) 79 9 = dt 79 9 := rfl
  have w8 : (u2 dt 79 17 p1) 79 10 = dt 79 10 := rfl
  have w9 : (u2 dt 79 17 p1) 79 11 = dt 79 11 := rfl
  have w10 : (u2 dt 79 17 p1) 79 12 = dt 79 12 := rfl
  have w11 : (u2 dt 79 17 p1) 79 13 = dt 79 13 := rfl
  have w12 : (u2 dt 79 17 p1) 79 14 = dt 79 14 := rfl
  have w13 : (u2 dt 79 17 p1) 79 15 = dt 79 15 := rfl
  have w14 : (u2 dt 79 17 p1) 79 16 = dt 79 16 := rfl
  have w15 : (u2 dt 79 17 p1) 79 20 = dt 79 20 := rfl
  refine go_smpq PM160 (L' := [some (.inr (.inr (some 79))), some (.inl p1)]) (st' := []) (w' := (SH, (u2 dt 79 17 p1))) rfl rfl (s_pf rfl rfl rfl rfl (by first | exact bnd h_p1 (by decide) (by decide) | exact ⟨by fail, by fail⟩)) ?_
  refine go_toq PM160 (k := 3) (pc' := 10) (L' := [some (.inr (.inr (some 79))), some (.inl p1)]) (st' := [.inl (dt 79 15), .inr (.inr (some 79))]) (w' := (SH, (u2 dt 79 17 p1))) rfl ?_
  have hI16 : InvC (u2 (u2 dt 79 17 p1) 79 18 (dt 79 15)) := InvC_u2 hI4 (lo := -2147483648) (hi := 2147483647) rfl rfl rfl (by first | exact bnd1 r1 (by decide) | fail) (by first | exact bnd2 r1 (by decide) | fail)
  have hF17 : Fr [79] dt (u2 (u2 dt 79 17 p1) 79 18 (dt 79 15)) := Fr_u2 hF5 (by decide)
  have w18 : (u2 (u2 dt 79 17 p1) 79 18 (dt 79 15)) 79 2 = (u2 dt 79 17 p1) 79 2 := rfl
  have w19 : (u2 (u2 dt 79 17 p1) 79 18 (dt 79 15)) 79 9 = (u2 dt 79 17 p1) 79 9 := rfl
  have w20 : (u2 (u2 dt 79 17 p1) 79 18 (dt 79 15)) 79 10 = (u2 dt 79 17 p1) 79 10 := rfl
  have w21 : (u2 (u2 dt 79 17 p1) 79 18 (dt 79 15)) 79 11 = (u2 dt 79 17 p1) 79 11 := rfl
  have w22 : (u2 (u2 dt 79 17 p1) 79 18 (dt 79 15)) 79 12 = (u2 dt 79 17 p1) 79 12 := rfl
  have w23 : (u2 (u2 dt 79 17 p1) 79 18 (dt 79 15)) 79 13 = (u2 dt 79 17 p1) 79 13 := rfl
  have w24 : (u2 (u2 dt 79 17 p1) 79 18 (dt 79 15)) 79 14 = (u2 dt 79 17 p1) 79 14 := rfl
  have w25 : (u2 (u2 dt 79 17 p1) 79 18 (dt 79 15)) 79 15 = (u2 dt 79 17 p1) 79 15 := rfl
  have w26 : (u2 (u2 dt 79 17 p1) 79 18 (dt 79 15)) 79 16 = (u2 dt 79 17 p1) 79 16 := rfl
  have w27 : (u2 (u2 dt 79 17 p1) 79 18 (dt 79 15)) 79 20 = (u2 dt 79 17 p1) 79 20 := rfl
  refine go_smpq PM160 (L' := [some (.inr (.inr (some 79))), some (.inl p1)]) (st' := []) (w' := (SH, (u2 (u2 dt 79 17 p1) 79 18 (dt 79 15)))) rfl rfl (s_pf rfl rfl rfl rfl (by first | exact bnd r1 (by decide) (by decide) | exact ⟨by fail, by fail⟩)) ?_
  refine go_retq PM160 (k := 1) (r := some (.inl 0)) (w1 := (SH, (u2 (u2 dt 79 17 p1) 79 18 (dt 79 15)))) rfl ?_
  exact ⟨(u2 (u2 dt 79 17 p1) 79 18 (dt 79 15)), rfl, hI16, hF17, ⟨rfl, ⟨by first | exact True.intro | with_reducible assumption | rfl | fail | trivial, by first | exact True.intro | with_reducible assumption | rfl | fail | trivial, by first | exact True.intro | with_reducible assumption | rfl | fail | trivial, by first | exact True.intro | with_reducible assumption | rfl | fail | trivial, by first | exact True.intro | with_reducible assumption | rfl | fail | trivial, by first | exact True.intro | with_reducible assumption | rfl | fail | trivial⟩⟩⟩
set_option maxRecDepth 20000 in
theorem sp_X6_need0 (L : Nat) (xs : Nat → Int32) (sio : Option Nat) (d : Nat) (dt : Nat → Nat → Int) (hI : InvC dt)  (p1 : Int) (h_p1 : 1 ≤ p1 ∧ p1 ≤ 400) (h_p0 : (¬ dt 79 14 = 0 → dt 79 15 + 1 ≤ dt 79 13) ∧ dt 79 13 ≤ 500) : GO (am_XX L xs sio) (d + 7) 161 0 [some (.inr (.inr (some 79))), some (.inl p1)] [] (SH, dt) (fun r w2 => ∃ dt2 : Nat → Nat → Int, w2 = (SH, dt2) ∧ InvC dt2 ∧ Fr [79] dt dt2 ∧ ((r = some (.inl 0) ∧ (dt2 79 2 = dt 79 2) ∧ (dt2 79 9 = dt 79 9) ∧ (dt2 79 10 = dt 79 10) ∧ (dt2 79 12 = dt 79 12)) ∨ (r = some (.inl 1) ∧ (dt 79 15 + 1 ≤ dt2 79 15) ∧ ((¬ dt2 79 14 = 0 → dt2 79 15 + 1 ≤ dt2 79 13) ∧ dt2 79 13 ≤ 500) ∧ (dt2 79 15 ≤ 500) ∧ (dt2 79 2 = dt 79 2) ∧ (dt2 79 9 = dt 79 9) ∧ (dt2 79 10 = dt 79 10) ∧ (dt2 79 11 = dt 79 11) ∧ (dt2 79 12 = dt 79 12) ∧ (dt2 79 20 = dt 79 20)))) := by
  have hF : Fr [79] dt dt := Fr_refl
  have r1 : 0 ≤ dt 79 15 ∧ dt 79 15 ≤ 500 := InvC_get hI 79 15 rfl rfl
  have r2 : 0 ≤ dt 79 11 ∧ dt 79 11 ≤ 510 := InvC_get hI 79 11 rfl rfl
  have r3 : 0 ≤ dt 79 10 ∧ dt 79 10 ≤ 24 := InvC_get hI 79 10 rfl rfl
  have r4 : (-2147483648) ≤ dt 79 14 ∧ dt 79 14 ≤ 2147483647 := InvC_get hI 79 14 rfl rfl
  refine go_ifq PM161 (k := 3) (p1 := 14) (p2 := 8) (L' := [some (.inr (.inr (some 79))), some (.inl p1)]) (st' := []) (w' := (SH, dt)) rfl (c_eq (a := dt 79 14) (b := p1) (by first | exact bnd r4 (by decide) (by decide) | exact ⟨by fail, by fail⟩) (by first | exact bnd h_p1 (by decide) (by decide) | exact ⟨by fail, by fail⟩)) (fun c5 => ?_) (fun c5 => ?_)
  · skip
    refine go_toq PM161 (k := 1) (pc' := 15) (L' := [some (.inr (.inr (some 79))), some (.inl p1)]) (st' := [.inr (.inr (some 79))]) (w' := (SH, dt)) rfl ?_
    refine go_callq PM161 PM159 (Q' := _) rfl rfl rfl rfl (sp_X6_next0 L xs sio (d + 0) dt hI   (by first | exact True.intro | with_reducible assumption | rfl | omega | trivial)) ?_
    rintro _ _ ⟨dt7, rfl, hI8, hF9, h6⟩
    refine ⟨rfl, ?_⟩
    have hF10 : Fr [79] dt dt7 := Fr_tr hF hF9 (by decide)
    rcases h6 with ⟨rfl, h6⟩
    refine go_retq PM161 (k := 1) (r := some (.inl 1)) (w1 := (SH, dt7)) rfl ?_
    exact ⟨dt7, rfl, hI8, hF10, (Or.inr ⟨rfl, ⟨by first | exact True.intro | with_reducible assumption | rfl | omega | trivial, by first | exact True.intro | with_reducible assumption | rfl | omega | trivial, by exact (InvC_get (by assumption) 79 15 rfl rfl).2, by first | exact True.intro | with_reducible assumption | rfl | omega | trivial, by first | exact True.intro | with_reducible assumption | rfl | omega | trivial, by first | exact True.intro | with_reducible assumption | rfl | omega | trivial, by first | exact True.intro | with_reducible assumption | rfl | omega | trivial, by first | exact True.intro | with_reducible assumption | rfl | omega | trivial, by first | exact True.intro | with_reducible assumption | rfl | omega | trivial⟩⟩)⟩
  · skip
    replace c5 := hid c5
    refine go_toq PM161 (k := 2) (pc' := 10) (L' := [some (.inr (.inr (some 79))), some (.inl p1)]) (st' := [.inl 1, .inr (.inr (some 79))]) (w' := (SH, dt)) rfl ?_
    refine go_callq PM161 PM160 (Q' := _) rfl rfl rfl rfl (sp_X6_bad L xs sio (d + 6) dt hI  1 ⟨by decide, by decide⟩ ) ?_
    rintro _ _ ⟨dt12, rfl, hI13, hF14, h11⟩
    refine ⟨rfl, ?_⟩
    have hF15 : Fr [79] dt dt12 := Fr_tr hF hF14 (by decide)
    rcases h11 with ⟨rfl, h11⟩
    refine go_retq PM161 (k := 0) (r := some (.inl 0)) (w1 := (SH, dt12)) rfl ?_
    exact ⟨dt12, rfl, hI13, hF15, (Or.inl ⟨rfl, ⟨by first | exact True.intro | with_reducible assumption | exact unhid (by with_reducible assumption) | rfl | omega | trivial, by first | exact True.intro | with_reducible assumption | exact unhid (by with_reducible assumption) | rfl | omega | trivial, by first | exact True.intro | with_reducible assumption | exact unhid (by with_reducible assumption) | rfl | omega | trivial, by first | exact True.intro | with_reducible assumption | exact unhid (by with_reducible assumption) | rfl | omega | trivial⟩⟩)⟩
set_option maxRecDepth 20000 in
theorem sp_X6_number (L : Nat) (xs : Nat → Int32) (sio : Option Nat) (d : Nat) (dt : Nat → Nat → Int) (hI : InvC dt)  (p1 : Int) (h_p1 : 0 ≤ p1 ∧ p1 ≤ 1) (p2 : Int) (h_p2 : 0 ≤ p2 ∧ p2 ≤ 9999) (h_p0 : (¬ dt 79 14 = 0 → dt 79 15 + 1 ≤ dt 79 13) ∧ dt 79 13 ≤ 500) : GO (am_XX L xs sio) (d + 7) 162 0 [some (.inr (.inr (some 79))), some (.inl p1), some (.inl p2)] [] (SH, dt) (fun r w2 => ∃ dt2 : Nat → Nat → Int, w2 = (SH, dt2) ∧ InvC dt2 ∧ Fr [79] dt dt2 ∧ ((r = some (.inl 0) ∧ (dt2 79 2 = dt 79 2) ∧ (dt2 79 9 = dt 79 9) ∧ (dt2 79 10 = dt 79 10) ∧ (dt2 79 12 = dt 79 12)) ∨ (r = some (.inl 1) ∧ (dt 79 14 = 2) ∧ (p1 ≤ dt 79 16 ∧ dt 79 16 ≤ p2) ∧ (dt 79 15 + 1 ≤ dt2 79 15) ∧ ((¬ dt2 79 14 = 0 → dt2 79 15 + 1 ≤ dt2 79 13) ∧ dt2 79 13 ≤ 500) ∧ (dt2 79 15 ≤ 500) ∧ (dt2 79 2 = dt 79 2) ∧ (dt2 79 9 = dt 79 9) ∧ (dt2 79 10 = dt 79 10) ∧ (dt2 79 11 = dt 79 11) ∧ (dt2 79 12 = dt 79 12) ∧ (dt2 79 20 = dt 79 20)))) := by
  have hF : Fr [79] dt dt := Fr_refl
  have r1 : 0 ≤ dt 79 15 ∧ dt 79 15 ≤ 500 := InvC_get hI 79 15 rfl rfl
  have r2 : 0 ≤ dt 79 11 ∧ dt 79 11 ≤ 510 := InvC_get hI 79 11 rfl rfl
  have r3 : 0 ≤ dt 79 10 ∧ dt 79 10 ≤ 24 := InvC_get hI 79 10 rfl rfl
  have r4 : 0 ≤ dt 79 16 ∧ dt 79 16 ≤ 9999 := InvC_get hI 79 16 rfl rfl
  have r5 : (-2147483648) ≤ dt 79 14 ∧ dt 79 14 ≤ 2147483647 := InvC_get hI 79 14 rfl rfl
  refine go_ifq PM162 (k := 3) (p1 := 14) (p2 := 8) (L' := [some (.inr (.inr (some 79))), some (.inl p1), some (.inl p2)]) (st' := []) (w' := (SH, dt)) rfl (c_eq (a := dt 79 14) (b := 2) (by first | exact bnd r5 (by decide) (by decide) | exact ⟨by fail, by fail⟩) ⟨by decide, by decide⟩) (fun c6 => ?_) (fun c6 => ?_)
  · skip
    refine go_toq PM162 (k := 4) (pc' := 20) (L' := [some (.inr (.inr (some 79))), some (.inl p1), some (.inl p2)]) (st' := [.inl p2, .inl p1, .inl (dt 79 16)]) (w' := (SH, dt)) rfl ?_
    refine go_callq PM162 PM146 (Q' := _) rfl rfl rfl rfl (sp_X6_isIn L xs sio (d + 6) dt hI  (dt 79 16) (by first | exact bnd r4 (by decide) (by decide) | exact ⟨by fail, by fail⟩) p1 (by first | exact h_p1 | exact bnd h_p1 (by decide) (by decide) | exact ⟨by fail, by fail⟩) p2 (by first | exact h_p2 | exact bnd h_p2 (by decide) (by decide) | exact ⟨by fail, by fail⟩) ) ?_
    rintro _ _ ⟨rfl, h7⟩
    refine ⟨rfl, ?_⟩
    rcases h7 with ⟨rfl, h7⟩ | ⟨rfl, h7⟩
    · skip
      refine go_toq PM162 (k := 2) (pc' := 33) (L' := [some (.inr (.inr (some 79))), some (.inl p1), some (.inl p2)]) (st' := [.inr (.inr (some 79))]) (w' := (SH, dt)) rfl ?_
      refine go_callq PM162 PM159 (Q' := _) rfl rfl rfl rfl (sp_X6_next0 L xs sio (d + 0) dt hI   (by first | exact True.intro | with_reducible assumption | rfl | omega | trivial)) ?_
      rintro _ _ ⟨dt9, rfl, hI10, hF11, h8⟩
      refine ⟨rfl, ?_⟩
      have hF12 : Fr [79] dt dt9 := Fr_tr hF hF11 (by decide)
      rcases h8 with ⟨rfl, h8⟩
      refine go_retq PM162 (k := 1) (r := some (.inl 1)) (w1 := (SH, dt9)) rfl ?_
      exact ⟨dt9, rfl, hI10, hF12, (Or.inr ⟨rfl, ⟨by first | exact True.intro | with_reducible assumption | rfl | fail | trivial, by first | exact True.intro | with_reducible assumption | rfl | fail | trivial, by first | exact True.intro | with_reducible assumption | rfl | omega | trivial, by first | exact True.intro | with_reducible assumption | rfl | omega | trivial, by exact (InvC_get (by assumption) 79 15 rfl rfl).2, by first | exact True.intro | with_reducible assumption | rfl | omega | trivial, by first | exact True.intro | with_reducible assumption | rfl | omega | trivial, by first | exact True.intro | with_reducible assumption | rfl | omega | trivial, by first | exact True.intro | with_reducible assumption | rfl | omega | trivial, by first | exact True.intro | with_reducible assumption | rfl | omega | trivial, by first | exact True.intro | with_reducible assumption | rfl | omega | trivial⟩⟩)⟩
    · skip
      refine go_toq PM162 (k := 3) (pc' := 28) (L' := [some (.inr (.inr (some 79))), some (.inl p1), some (.inl p2)]) (st' := [.inl 2, .inr (.inr (some 79))]) (w' := (SH, dt)) rfl ?_
      refine go_callq PM162 PM160 (Q' := _) rfl rfl rfl rfl (sp_X6_bad L xs sio (d + 6) dt hI  2 ⟨by decide, by decide⟩ ) ?_
      rintro _ _ ⟨dt14, rfl, hI15, hF16, h13⟩
      refine ⟨rfl, ?_⟩
      have hF17 : Fr [79] dt dt14 := Fr_tr hF hF16 (by decide)
      rcases h13 with ⟨rfl, h13⟩
      refine go_retq PM162 (k := 0) (r := some (.inl 0)) (w1 := (SH, dt14)) rfl ?_
      exact ⟨dt14, rfl, hI15, hF17, (Or.inl ⟨rfl, ⟨by first | exact True.intro | with_reducible assumption | rfl | omega | trivial, by first | exact True.intro | with_reducible assumption | rfl | omega | trivial, by first | exact True.intro | with_reducible assumption | rfl | omega | trivial, by first | exact True.intro | with_reducible assumption | rfl | omega | trivial⟩⟩)⟩
  · skip
    replace c6 := hid c6
    refine go_toq PM162 (k := 2) (pc' := 10) (L' := [some (.inr (.inr (some 79))), some (.inl p1), some (.inl p2)]) (st' := [.inl 1, .inr (.inr (some 79))]) (w' := (SH, dt)) rfl ?_
    refine go_callq PM162 PM160 (Q' := _) rfl rfl rfl rfl (sp_X6_bad L xs sio (d + 6) dt hI  1 ⟨by decide, by decide⟩ ) ?_
    rintro _ _ ⟨dt19, rfl, hI20, hF21, h18⟩
    refine ⟨rfl, ?_⟩
    have hF22 : Fr [79] dt dt19 := Fr_tr hF hF21 (by decide)
    rcases h18 with ⟨rfl, h18⟩
    refine go_retq PM162 (k := 0) (r := some (.inl 0)) (w1 := (SH, dt19)) rfl ?_
    exact ⟨dt19, rfl, hI20, hF22, (Or.inl ⟨rfl, ⟨by first | exact True.intro | with_reducible assumption | exact unhid (by with_reducible assumption) | rfl | omega | trivial, by first | exact True.intro | with_reducible assumption | exact unhid (by with_reducible assumption) | rfl | omega | trivial, by first | exact True.intro | with_reducible assumption | exact unhid (by with_reducible assumption) | rfl | omega | trivial, by first | exact True.intro | with_reducible assumption | exact unhid (by with_reducible assumption) | rfl | omega | trivial⟩⟩)⟩
set_option maxRecDepth 20000 in
theorem sp_X6_lay (L : Nat) (xs : Nat → Int32) (sio : Option Nat) (d : Nat) (dt : Nat → Nat → Int) (hI : InvC dt)  (p1 : Int) (h_p1 : 0 ≤ p1 ∧ p1 ≤ 16) (p2 : Int) (h_p2 : (-2147483648) ≤ p2 ∧ p2 ≤ 2147483647) (h_p0 : dt 79 11 ≤ 509) : GO (am_XX L xs sio) (d) 163 0 [some (.inr (.inr (some 79))), some (.inl p1), some (.inl p2)] [] (SH, dt) (fun r w2 => ∃ dt2 : Nat → Nat → Int, w2 = (SH, dt2) ∧ InvC dt2 ∧ Fr [79, 84] dt dt2 ∧ ((r = none ∧ (dt2 79 11 = dt 79 11 + 1) ∧ (AGR (dt2 84) (dt 84) (dt 79 11)) ∧ (dt2 84 (2 * (dt 79 11).toNat) = p1) ∧ (dt2 84 (2 * (dt 79 11).toNat + 1) = p2) ∧ (dt2 79 2 = dt 79 2) ∧ (dt2 79 9 = dt 79 9) ∧ (dt2 79 10 = dt 79 10) ∧ (dt2 79 12 = dt 79 12) ∧ (dt2 79 13 = dt 79 13) ∧ (dt2 79 14 = dt 79 14) ∧ (dt2 79 15 = dt 79 15) ∧ (dt2 79 16 = dt 79 16) ∧ (dt2 79 20 = dt 79 20)))) := by
  have hF : Fr [79, 84] dt dt := Fr_refl
  have r1 : 0 ≤ dt 79 11 ∧ dt 79 11 ≤ 510 := InvC_get hI 79 11 rfl rfl
  refine go_toq PM163 (k := 7) (pc' := 11) (L' := [some (.inr (.inr (some 79))), some (.inl p1), some (.inl p2)]) (st' := [.inl p1, .inl (2 * (dt 79 11)), .inr (.inr (some 84))]) (w' := (SH, dt)) rfl ?_
  have hI2 : InvC (u2 dt 84 ((2 * (dt 79 11)).toNat) p1) := InvC_u2 hI (lo := -2147483648) (hi := 2147483647) rfl rfl rfl (by first | exact bnd1 h_p1 (by decide) | fail) (by first | exact bnd2 h_p1 (by decide) | fail)
  have hF3 : Fr [79, 84] dt (u2 dt 84 ((2 * (dt 79 11)).toNat) p1) := Fr_u2 hF (by decide)
  have w4 : (u2 dt 84 ((2 * (dt 79 11)).toNat) p1) 79 2 = dt 79 2 := rfl
  have w5 : (u2 dt 84 ((2 * (dt 79 11)).toNat) p1) 79 9 = dt 79 9 := rfl
  have w6 : (u2 dt 84 ((2 * (dt 79 11)).toNat) p1) 79 10 = dt 79 10 := rfl
  have w7 : (u2 dt 84 ((2 * (dt 79 11)).toNat) p1) 79 11 = dt 79 11 := rfl
  have w8 : (u2 dt 84 ((2 * (dt 79 11)).toNat) p1) 79 12 = dt 79 12 := rfl
  have w9 : (u2 dt 84 ((2 * (dt 79 11)).toNat) p1) 79 13 = dt 79 13 := rfl
  have w10 : (u2 dt 84 ((2 * (dt 79 11)).toNat) p1) 79 14 = dt 79 14 := rfl
  have w11 : (u2 dt 84 ((2 * (dt 79 11)).toNat) p1) 79 15 = dt 79 15 := rfl
  have w12 : (u2 dt 84 ((2 * (dt 79 11)).toNat) p1) 79 16 = dt 79 16 := rfl
  have w13 : (u2 dt 84 ((2 * (dt 79 11)).toNat) p1) 79 20 = dt 79 20 := rfl
  refine go_smpq PM163 (L' := [some (.inr (.inr (some 79))), some (.inl p1), some (.inl p2)]) (st' := []) (w' := (SH, (u2 dt 84 ((2 * (dt 79 11)).toNat) p1))) rfl rfl (s_iast (n := 1020) rfl ⟨by omega, by omega⟩ (by first | exact bnd h_p1 (by decide) (by decide) | exact ⟨by fail, by fail⟩)) ?_
  refine go_toq PM163 (k := 9) (pc' := 25) (L' := [some (.inr (.inr (some 79))), some (.inl p1), some (.inl p2)]) (st' := [.inl p2, .inl ((2 * (dt 79 11)) + 1), .inr (.inr (some 84))]) (w' := (SH, (u2 dt 84 ((2 * (dt 79 11)).toNat) p1))) rfl ?_
  have hI14 : InvC (u2 (u2 dt 84 ((2 * (dt 79 11)).toNat) p1) 84 (((2 * (dt 79 11)) + 1).toNat) p2) := InvC_u2 hI2 (lo := -2147483648) (hi := 2147483647) rfl rfl rfl (by first | exact bnd1 h_p2 (by decide) | fail) (by first | exact bnd2 h_p2 (by decide) | fail)
  have hF15 : Fr [79, 84] dt (u2 (u2 dt 84 ((2 * (dt 79 11)).toNat) p1) 84 (((2 * (dt 79 11)) + 1).toNat) p2) := Fr_u2 hF3 (by decide)
  have w16 : (u2 (u2 dt 84 ((2 * (dt 79 11)).toNat) p1) 84 (((2 * (dt 79 11)) + 1).toNat) p2) 79 2 = (u2 dt 84 ((2 * (dt 79 11)).toNat) p1) 79 2 := rfl
  have w17 : (u2 (u2 dt 84 ((2 * (dt 79 11)).toNat) p1) 84 (((2 * (dt 79 11)) + 1).toNat) p2) 79 9 = (u2 dt 84 ((2 * (dt 79 11)).toNat) p1) 79 9 := rfl
  have w18 : (u2 (u2 dt 84 ((2 * (dt 79 11)).toNat) p1) 84 (((2 * (dt 79 11)) + 1).toNat) p2) 79 10 = (u2 dt 84 ((2 * (dt 79 11)).toNat) p1) 79 10 := rfl
  have w19 : (u2 (u2 dt 84 ((2 * (dt 79 11)).toNat) p1) 84 (((2 * (dt 79 11)) + 1).toNat) p2) 79 11 = (u2 dt 84 ((2 * (dt 79 11)).toNat) p1) 79 11 := rfl
  have w20 : (u2 (u2 dt 84 ((2 * (dt 79 11)).toNat) p1) 84 (((2 * (dt 79 11)) + 1).toNat) p2) 79 12 = (u2 dt 84 ((2 * (dt 79 11)).toNat) p1) 79 12 := rfl
  have w21 : (u2 (u2 dt 84 ((2 * (dt 79 11)).toNat) p1) 84 (((2 * (dt 79 11)) + 1).toNat) p2) 79 13 = (u2 dt 84 ((2 * (dt 79 11)).toNat) p1) 79 13 := rfl
  have w22 : (u2 (u2 dt 84 ((2 * (dt 79 11)).toNat) p1) 84 (((2 * (dt 79 11)) + 1).toNat) p2) 79 14 = (u2 dt 84 ((2 * (dt 79 11)).toNat) p1) 79 14 := rfl
  have w23 : (u2 (u2 dt 84 ((2 * (dt 79 11)).toNat) p1) 84 (((2 * (dt 79 11)) + 1).toNat) p2) 79 15 = (u2 dt 84 ((2 * (dt 79 11)).toNat) p1) 79 15 := rfl
  have w24 : (u2 (u2 dt 84 ((2 * (dt 79 11)).toNat) p1) 84 (((2 * (dt 79 11)) + 1).toNat) p2) 79 16 = (u2 dt 84 ((2 * (dt 79 11)).toNat) p1) 79 16 := rfl
  have w25 : (u2 (u2 dt 84 ((2 * (dt 79 11)).toNat) p1) 84 (((2 * (dt 79 11)) + 1).toNat) p2) 79 20 = (u2 dt 84 ((2 * (dt 79 11)).toNat) p1) 79 20 := rfl
  refine go_smpq PM163 (L' := [some (.inr (.inr (some 79))), some (.inl p1), some (.inl p2)]) (st' := []) (w' := (SH, (u2 (u2 dt 84 ((2 * (dt 79 11)).toNat) p1) 84 (((2 * (dt 79 11)) + 1).toNat) p2))) rfl rfl (s_iast (n := 1020) rfl ⟨by omega, by omega⟩ (by first | exact bnd h_p2 (by decide) (by decide) | exact ⟨by fail, by fail⟩)) ?_
  refine go_toq PM163 (k := 5) (pc' := 33) (L' := [some (.inr (.inr (some 79))), some (.inl p1), some (.inl p2)]) (st' := [.inl ((dt 79 11) + 1), .inr (.inr (some 79))]) (w' := (SH, (u2 (u2 dt 84 ((2 * (dt 79 11)).toNat) p1) 84 (((2 * (dt 79 11)) + 1).toNat) p2))) rfl ?_
  have hI26 : InvC (u2 (u2 (u2 dt 84 ((2 * (dt 79 11)).toNat) p1) 84 (((2 * (dt 79 11)) + 1).toNat) p2) 79 11 ((dt 79 11) + 1)) := InvC_u2 hI14 (lo := 0) (hi := 510) rfl rfl rfl (by omega) (by omega)
  have hF27 : Fr [79, 84] dt (u2 (u2 (u2 dt 84 ((2 * (dt 79 11)).toNat) p1) 84 (((2 * (dt 79 11)) + 1).toNat) p2) 79 11 ((dt 79 11) + 1)) := Fr_u2 hF15 (by decide)
  have w28 : (u2 (u2 (u2 dt 84 ((2 * (dt 79 11)).toNat) p1) 84 (((2 * (dt 79 11)) + 1).toNat) p2) 79 11 ((dt 79 11) + 1)) 79 2 = (u2 (u2 dt 84 ((2 * (dt 79 11)).toNat) p1) 84 (((2 * (dt 79 11)) + 1).toNat) p2) 79 2 := rfl
  have w29 : (u2 (u2 (u2 dt 84 ((2 * (dt 79 11)).toNat) p1) 84 (((2 * (dt 79 11)) + 1).toNat) p2) 79 11 ((dt 79 11) + 1)) 79 9 = (u2 (u2 dt 84 ((2 * (dt 79 11)).toNat) p1) 84 (((2 * (dt 79 11)) + 1).toNat) p2) 79 9 := rfl
  have w30 : (u2 (u2 (u2 dt 84 ((2 * (dt 79 11)).toNat) p1) 84 (((2 * (dt 79 11)) + 1).toNat) p2) 79 11 ((dt 79 11) + 1)) 79 10 = (u2 (u2 dt 84 ((2 * (dt 79 11)).toNat) p1) 84 (((2 * (dt 79 11)) + 1).toNat) p2) 79 10 := rfl
  have w31 : (u2 (u2 (u2 dt 84 ((2 * (dt 79 11)).toNat) p1) 84 (((2 * (dt 79 11)) + 1).toNat) p2) 79 11 ((dt 79 11) + 1)) 79 11 = (dt 79 11) + 1 := rfl
  have w32 : (u2 (u2 (u2 dt 84 ((2 * (dt 79 11)).toNat) p1) 84 (((2 * (dt 79 11)) + 1).toNat) p2) 79 11 ((dt 79 11) + 1)) 79 12 = (u2 (u2 dt 84 ((2 * (dt 79 11)).toNat) p1) 84 (((2 * (dt 79 11)) + 1).toNat) p2) 79 12 := rfl
  have w33 : (u2 (u2 (u2 dt 84 ((2 * (dt 79 11)).toNat) p1) 84 (((2 * (dt 79 11)) + 1).toNat) p2) 79 11 ((dt 79 11) + 1)) 79 13 = (u2 (u2 dt 84 ((2 * (dt 79 11)).toNat) p1) 84 (((2 * (dt 79 11)) + 1).toNat) p2) 79 13 := rfl
  have w34 : (u2 (u2 (u2 dt 84 ((2 * (dt 79 11)).toNat) p1) 84 (((2 * (dt 79 11)) + 1).toNat) p2) 79 11 ((dt 79 11) + 1)) 79 14 = (u2 (u2 dt 84 ((2 * (dt 79 11)).toNat) p1) 84 (((2 * (dt 79 11)) + 1).toNat) p2) 79 14 := rfl
  have w35 : (u2 (u2 (u2 dt 84 ((2 * (dt 79 11)).toNat) p1) 84 (((2 * (dt 79 11)) + 1).toNat) p2) 79 11 ((dt 79 11) + 1)) 79 15 = (u2 (u2 dt 84 ((2 * (dt 79 11)).toNat) p1) 84 (((2 * (dt 79 11)) + 1).toNat) p2) 79 15 := rfl
  have w36 : (u2 (u2 (u2 dt 84 ((2 * (dt 79 11)).toNat) p1) 84 (((2 * (dt 79 11)) + 1).toNat) p2) 79 11 ((dt 79 11) + 1)) 79 16 = (u2 (u2 dt 84 ((2 * (dt 79 11)).toNat) p1) 84 (((2 * (dt 79 11)) + 1).toNat) p2) 79 16 := rfl
  have w37 : (u2 (u2 (u2 dt 84 ((2 * (dt 79 11)).toNat) p1) 84 (((2 * (dt 79 11)) + 1).toNat) p2) 79 11 ((dt 79 11) + 1)) 79 20 = (u2 (u2 dt 84 ((2 * (dt 79 11)).toNat) p1) 84 (((2 * (dt 79 11)) + 1).toNat) p2) 79 20 := rfl
  refine go_smpq PM163 (L' := [some (.inr (.inr (some 79))), some (.inl p1), some (.inl p2)]) (st' := []) (w' := (SH, (u2 (u2 (u2 dt 84 ((2 * (dt 79 11)).toNat) p1) 84 (((2 * (dt 79 11)) + 1).toNat) p2) 79 11 ((dt 79 11) + 1)))) rfl rfl (s_pf rfl rfl rfl rfl (by first | exact bndp r1 (by decide) (by decide) | exact ⟨by fail, by fail⟩)) ?_
  refine go_retq PM163 (k := 0) (r := none) (w1 := (SH, (u2 (u2 (u2 dt 84 ((2 * (dt 79 11)).toNat) p1) 84 (((2 * (dt 79 11)) + 1).toNat) p2) 79 11 ((dt 79 11) + 1)))) rfl ?_
  exact ⟨(u2 (u2 (u2 dt 84 ((2 * (dt 79 11)).toNat) p1) 84 (((2 * (dt 79 11)) + 1).toNat) p2) 79 11 ((dt 79 11) + 1)), rfl, hI26, hF27, ⟨rfl, ⟨by first | exact True.intro | with_reducible assumption | rfl | fail | trivial, by intro j hj; (repeat rw [u2_ne (by omega)]), by (rw [show 2 * (dt 79 11).toNat = (2 * (dt 79 11)).toNat by first | with_reducible assumption | omega]; (repeat (first | rw [u2_eq] | rw [u2_ne (by omega)]))), by (rw [show 2 * (dt 79 11).toNat + 1 = ((2 * (dt 79 11)) + 1).toNat by first | with_reducible assumption | omega]; (repeat (first | rw [u2_eq] | rw [u2_ne (by omega)]))), by first | exact True.intro | with_reducible assumption | rfl | fail | trivial, by first | exact True.intro | with_reducible assumption | rfl | fail | trivial, by first | exact True.intro | with_reducible assumption | rfl | fail | trivial, by first | exact True.intro | with_reducible assumption | rfl | fail | trivial, by first | exact True.intro | with_reducible assumption | rfl | fail | trivial, by first | exact True.intro | with_reducible assumption | rfl | fail | trivial, by first | exact True.intro | with_reducible assumption | rfl | fail | trivial, by first | exact True.intro | with_reducible assumption | rfl | fail | trivial, by first | exact True.intro | with_reducible assumption | rfl | fail | trivial⟩⟩⟩
set_option maxRecDepth 20000 in
theorem sp_X6_opens (L : Nat) (xs : Nat → Int32) (sio : Option Nat) (d : Nat) (dt : Nat → Nat → Int) (hI : InvC dt)   (h_p0 : (¬ dt 79 14 = 0 → dt 79 15 + 1 ≤ dt 79 13) ∧ dt 79 13 ≤ 500) (h_p1 : ¬ dt 79 14 = 0) : GO (am_XX L xs sio) (d + 7) 164 0 [some (.inr (.inr (some 79)))] [] (SH, dt) (fun r w2 => ∃ dt2 : Nat → Nat → Int, w2 = (SH, dt2) ∧ InvC dt2 ∧ Fr [79] dt dt2 ∧ ((r = some (.inl 0) ∧ (dt2 79 2 = dt 79 2) ∧ (dt2 79 9 = dt 79 9) ∧ (dt2 79 10 = dt 79 10) ∧ (dt2 79 12 = dt 79 12)) ∨ (r = some (.inl 1) ∧ (dt2 79 20 = dt 79 20 + 1) ∧ (dt 79 20 ≤ 7) ∧ (dt 79 15 + 1 ≤ dt2 79 15) ∧ ((¬ dt2 79 14 = 0 → dt2 79 15 + 1 ≤ dt2 79 13) ∧ dt2 79 13 ≤ 500) ∧ (dt2 79 15 ≤ 500) ∧ (dt2 79 2 = dt 79 2) ∧ (dt2 79 9 = dt 79 9) ∧ (dt2 79 10 = dt 79 10) ∧ (dt2 79 11 = dt 79 11) ∧ (dt2 79 12 = dt 79 12)))) := by
  replace h_p1 := hid h_p1
  have hF : Fr [79] dt dt := Fr_refl
  have r1 : 0 ≤ dt 79 15 ∧ dt 79 15 ≤ 500 := InvC_get hI 79 15 rfl rfl
  have r2 : 0 ≤ dt 79 11 ∧ dt 79 11 ≤ 510 := InvC_get hI 79 11 rfl rfl
  have r3 : 0 ≤ dt 79 10 ∧ dt 79 10 ≤ 24 := InvC_get hI 79 10 rfl rfl
  have r4 : 0 ≤ dt 79 20 ∧ dt 79 20 ≤ 8 := InvC_get hI 79 20 rfl rfl
  refine go_ifq PM164 (k := 3) (p1 := 15) (p2 := 9) (L' := [some (.inr (.inr (some 79)))]) (st' := []) (w' := (SH, dt)) rfl (c_ne (a := dt 79 20) (b := 8) (by first | exact bnd r4 (by decide) (by decide) | exact ⟨by fail, by fail⟩) ⟨by decide, by decide⟩) (fun c5 => ?_) (fun c5 => ?_)
  · skip
    have qc5 : dt 79 20 ≤ 7 := by omega
    replace c5 := hid c5
    refine go_toq PM164 (k := 5) (pc' := 22) (L' := [some (.inr (.inr (some 79)))]) (st' := [.inl ((dt 79 20) + 1), .inr (.inr (some 79))]) (w' := (SH, dt)) rfl ?_
    have hI6 : InvC (u2 dt 79 20 ((dt 79 20) + 1)) := InvC_u2 hI (lo := 0) (hi := 8) rfl rfl rfl (by omega) (by omega)
    have hF7 : Fr [79] dt (u2 dt 79 20 ((dt 79 20) + 1)) := Fr_u2 hF (by decide)
    have w8 : (u2 dt 79 20 ((dt 79 20) + 1)) 79 2 = dt 79 2 := rfl
    have w9 : (u2 dt 79 20 ((dt 79 20) + 1)) 79 9 = dt 79 9 := rfl
    have w10 : (u2 dt 79 20 ((dt 79 20) + 1)) 79 10 = dt 79 10 := rfl
    have w11 : (u2 dt 79 20 ((dt 79 20) + 1)) 79 11 = dt 79 11 := rfl
    have w12 : (u2 dt 79 20 ((dt 79 20) + 1)) 79 12 = dt 79 12 := rfl
    have w13 : (u2 dt 79 20 ((dt 79 20) + 1)) 79 13 = dt 79 13 := rfl
    have w14 : (u2 dt 79 20 ((dt 79 20) + 1)) 79 14 = dt 79 14 := rfl
    have w15 : (u2 dt 79 20 ((dt 79 20) + 1)) 79 15 = dt 79 15 := rfl
    have w16 : (u2 dt 79 20 ((dt 79 20) + 1)) 79 16 = dt 79 16 := rfl
    have w17 : (u2 dt 79 20 ((dt 79 20) + 1)) 79 20 = (dt 79 20) + 1 := rfl
    refine go_smpq PM164 (L' := [some (.inr (.inr (some 79)))]) (st' := []) (w' := (SH, (u2 dt 79 20 ((dt 79 20) + 1)))) rfl rfl (s_pf rfl rfl rfl rfl (by first | exact bndp r4 (by decide) (by decide) | exact ⟨by fail, by fail⟩)) ?_
    refine go_toq PM164 (k := 1) (pc' := 26) (L' := [some (.inr (.inr (some 79)))]) (st' := [.inr (.inr (some 79))]) (w' := (SH, (u2 dt 79 20 ((dt 79 20) + 1)))) rfl ?_
    refine go_callq PM164 PM159 (Q' := _) rfl rfl rfl rfl (sp_X6_next0 L xs sio (d + 0) (u2 dt 79 20 ((dt 79 20) + 1)) hI6   (by first | exact True.intro | with_reducible assumption | exact unhid (by with_reducible assumption) | rfl | omega | trivial)) ?_
    rintro _ _ ⟨dt19, rfl, hI20, hF21, h18⟩
    refine ⟨rfl, ?_⟩
    have hF22 : Fr [79] dt dt19 := Fr_tr hF7 hF21 (by decide)
    rcases h18 with ⟨rfl, h18⟩
    refine go_retq PM164 (k := 1) (r := some (.inl 1)) (w1 := (SH, dt19)) rfl ?_
    exact ⟨dt19, rfl, hI20, hF22, (Or.inr ⟨rfl, ⟨by first | exact True.intro | with_reducible assumption | exact unhid (by with_reducible assumption) | rfl | omega | trivial, by first | exact True.intro | with_reducible assumption | exact unhid (by with_reducible assumption) | rfl | fail | trivial, by first | exact True.intro | with_reducible assumption | exact unhid (by with_reducible assumption) | rfl | (have z0_ := unhid h_p1; have z1_ := unhid c5; omega) | trivial, by first | exact True.intro | with_reducible assumption | exact unhid (by with_reducible assumption) | rfl | omega | trivial, by exact (InvC_get (by assumption) 79 15 rfl rfl).2, by first | exact True.intro | with_reducible assumption | exact unhid (by with_reducible assumption) | rfl | omega | trivial, by first | exact True.intro | with_reducible assumption | exact unhid (by with_reducible assumption) | rfl | omega | trivial, by first | exact True.intro | with_reducible assumption | exact unhid (by with_reducible assumption) | rfl | omega | trivial, by first | exact True.intro | with_reducible assumption | exact unhid (by with_reducible assumption) | rfl | omega | trivial, by first | exact True.intro | with_reducible assumption | exact unhid (by with_reducible assumption) | rfl | omega | trivial⟩⟩)⟩
  · skip
    refine go_toq PM164 (k := 2) (pc' := 11) (L' := [some (.inr (.inr (some 79)))]) (st' := [.inl 3, .inr (.inr (some 79))]) (w' := (SH, dt)) rfl ?_
    refine go_callq PM164 PM160 (Q' := _) rfl rfl rfl rfl (sp_X6_bad L xs sio (d + 6) dt hI  3 ⟨by decide, by decide⟩ ) ?_
    rintro _ _ ⟨dt24, rfl, hI25, hF26, h23⟩
    refine ⟨rfl, ?_⟩
    have hF27 : Fr [79] dt dt24 := Fr_tr hF hF26 (by decide)
    rcases h23 with ⟨rfl, h23⟩
    refine go_retq PM164 (k := 0) (r := some (.inl 0)) (w1 := (SH, dt24)) rfl ?_
    exact ⟨dt24, rfl, hI25, hF27, (Or.inl ⟨rfl, ⟨by first | exact True.intro | with_reducible assumption | exact unhid (by with_reducible assumption) | rfl | omega | trivial, by first | exact True.intro | with_reducible assumption | exact unhid (by with_reducible assumption) | rfl | omega | trivial, by first | exact True.intro | with_reducible assumption | exact unhid (by with_reducible assumption) | rfl | omega | trivial, by first | exact True.intro | with_reducible assumption | exact unhid (by with_reducible assumption) | rfl | omega | trivial⟩⟩)⟩
set_option maxRecDepth 20000 in
theorem sp_X6_unit (L : Nat) (xs : Nat → Int32) (sio : Option Nat) (d : Nat) (dt : Nat → Nat → Int) (hI : InvC dt)   (h_p0 : (¬ dt 79 14 = 0 → dt 79 15 + 1 ≤ dt 79 13) ∧ dt 79 13 ≤ 500) (h_p1 : dt 79 11 ≤ dt 79 15) : GO (am_XX L xs sio) (d + 7) 167 0 [some (.inr (.inr (some 79))), none] [] (SH, dt) (fun r w2 => ∃ dt2 : Nat → Nat → Int, w2 = (SH, dt2) ∧ InvC dt2 ∧ Fr [79, 84] dt dt2 ∧ ((r = some (.inl 0) ∧ (dt2 79 2 = dt 79 2) ∧ (dt2 79 9 = dt 79 9) ∧ (dt2 79 10 = dt 79 10) ∧ (dt2 79 12 = dt 79 12)) ∨ (r = some (.inl 1) ∧ (dt 79 15 + dt2 79 11 ≤ dt2 79 15 + dt 79 11) ∧ (dt 79 11 + 1 ≤ dt2 79 11) ∧ ((¬ dt2 79 14 = 0 → dt2 79 15 + 1 ≤ dt2 79 13) ∧ dt2 79 13 ≤ 500) ∧ (dt2 79 15 ≤ 500) ∧ (PS (dt2 84) (dt 79 11) (dt2 79 11)) ∧ (AGR (dt2 84) (dt 84) (dt 79 11)) ∧ (dt2 79 2 = dt 79 2) ∧ (dt2 79 9 = dt 79 9) ∧ (dt2 79 10 = dt 79 10) ∧ (dt2 79 12 = dt 79 12) ∧ (dt2 79 20 = dt 79 20)))) := by
  have hF : Fr [79, 84] dt dt := Fr_refl
  have r1 : 0 ≤ dt 79 15 ∧ dt 79 15 ≤ 500 := InvC_get hI 79 15 rfl rfl
  have r2 : 0 ≤ dt 79 11 ∧ dt 79 11 ≤ 510 := InvC_get hI 79 11 rfl rfl
  have r3 : 0 ≤ dt 79 10 ∧ dt 79 10 ≤ 24 := InvC_get hI 79 10 rfl rfl
  have r4 : (-2147483648) ≤ dt 79 14 ∧ dt 79 14 ≤ 2147483647 := InvC_get hI 79 14 rfl rfl
  refine go_toq PM167 (k := 4) (pc' := 8) (L' := [some (.inr (.inr (some 79))), none]) (st' := [.inl 46, .inl 41, .inl (dt 79 14)]) (w' := (SH, dt)) rfl ?_
  refine go_callq PM167 PM146 (Q' := _) rfl rfl rfl rfl (sp_X6_isIn L xs sio (d + 6) dt hI  (dt 79 14) (by first | exact bnd r4 (by decide) (by decide) | exact ⟨by fail, by fail⟩) 41 ⟨by decide, by decide⟩ 46 ⟨by decide, by decide⟩ ) ?_
  rintro _ _ ⟨rfl, h5⟩
  refine ⟨rfl, ?_⟩
  rcases h5 with ⟨rfl, h5⟩ | ⟨rfl, h5⟩
  · skip
    refine go_ifq PM167 (k := 4) (p1 := 30) (p2 := 20) (L' := [some (.inr (.inr (some 79))), some (.inl 1)]) (st' := []) (w' := (SH, dt)) rfl (c_eq (a := dt 79 14) (b := 2) (by first | exact bnd r4 (by decide) (by decide) | exact ⟨by fail, by fail⟩) ⟨by decide, by decide⟩) (fun c6 => ?_) (fun c6 => ?_)
    · exfalso; omega
    · skip
      replace c6 := hid c6
      have r7 : 0 ≤ dt 79 16 ∧ dt 79 16 ≤ 9999 := InvC_get hI 79 16 rfl rfl
      refine go_toq PM167 (k := 12) (pc' := 50) (L' := [some (.inr (.inr (some 79))), some (.inl 1)]) (st' := [.inl (dt 79 16), .inl ((dt 79 14) - 40), .inr (.inr (some 79))]) (w' := (SH, dt)) rfl ?_
      refine go_callq PM167 PM163 (Q' := _) rfl rfl rfl rfl (sp_X6_lay L xs sio (d + 6) dt hI  ((dt 79 14) - 40) ⟨by omega, by omega⟩ (dt 79 16) (by first | exact bnd r7 (by decide) (by decide) | exact ⟨by fail, by fail⟩) (by first | exact True.intro | with_reducible assumption | exact unhid (by with_reducible assumption) | rfl | omega | trivial)) ?_
      rintro _ _ ⟨dt9, rfl, hI10, hF11, h8⟩
      refine ⟨rfl, ?_⟩
      have hF12 : Fr [79, 84] dt dt9 := Fr_tr hF hF11 (by decide)
      rcases h8 with ⟨rfl, h8⟩
      obtain ⟨h8_0, h8_1, h8_2, h8_3, h8_4, h8_5, h8_6, h8_7, h8_8, h8_9, h8_10, h8_11, h8_12⟩ := h8
      refine go_toq PM167 (k := 1) (pc' := 54) (L' := [some (.inr (.inr (some 79))), some (.inl 1)]) (st' := [.inr (.inr (some 79))]) (w' := (SH, dt9)) rfl ?_
      refine go_callq PM167 PM159 (Q' := _) rfl rfl rfl rfl (sp_X6_next0 L xs sio (d + 0) dt9 hI10   (by first | exact True.intro | with_reducible assumption | exact unhid (by with_reducible assumption) | rfl | omega | trivial)) ?_
      rintro _ _ ⟨dt14, rfl, hI15, hF16, h13⟩
      refine ⟨rfl, ?_⟩
      have hF17 : Fr [79, 84] dt dt14 := Fr_tr hF12 hF16 (by decide)
      have E8418 : dt14 84 = dt9 84 := funext (hF16 84 (by decide))
      rcases h13 with ⟨rfl, h13⟩
      obtain ⟨h13_0, h13_1, h13_2, h13_3, h13_4, h13_5, h13_6, h13_7, h13_8⟩ := h13
      refine go_retq PM167 (k := 1) (r := some (.inl 1)) (w1 := (SH, dt14)) rfl ?_
      exact ⟨dt14, rfl, hI15, hF17, (Or.inr ⟨rfl, ⟨by first | exact True.intro | with_reducible assumption | exact unhid (by with_reducible assumption) | rfl | omega | trivial, by first | exact True.intro | with_reducible assumption | exact unhid (by with_reducible assumption) | rfl | omega | trivial, by first | exact True.intro | with_reducible assumption | exact unhid (by with_reducible assumption) | rfl | fail | trivial, by exact (InvC_get (by assumption) 79 15 rfl rfl).2, by first | assumption | exact PS_bin (by assumption) (by assumption) (by assumption) (by assumption) (by first | assumption | rfl) (by assumption) (by fail) (by fail) (by fail) | exact PS_un (by assumption) (by assumption) (by assumption) (by first | assumption | rfl) (by assumption) (by fail) (by fail) (by fail) (by fail) | exact PS_eq (by assumption) (by first | rfl | assumption) (by fail) (by fail) | exact PS_eq (by assumption) (by assumption) (by fail) (by fail) | exact PS_unit2 (by assumption) (by assumption) (by omega) (by omega) (by omega), by first | assumption | exact AGR_rfl | exact AGR_4 (by assumption) (by assumption) (by first | rfl | assumption) (by omega) | exact AGR_4 (by assumption) (by assumption) (by assumption) (by fail) | exact AGR_e (by assumption) | exact AGR_2 (by assumption) (by first | rfl | assumption) (by fail) | exact AGR_2 (by assumption) (by assumption) (by fail) | exact AGR_tr (by assumption) (by first | assumption | rfl) (by assumption) (by fail) | exact AGR_tr (by assumption) (by first | assumption | rfl) (AGR_tr (by assumption) (by first | assumption | rfl) (by assumption) (by fail)) (by fail) | exact AGR_tr (by assumption) (by first | assumption | rfl) (AGR_2 (by assumption) (by first | assumption | rfl) (by fail)) (by fail) | exact AGR_tr (by assumption) (by first | assumption | rfl) (AGR_tr (by assumption) (by first | assumption | rfl) (AGR_2 (by assumption) (by first | assumption | rfl) (by fail)) (by fail)) (by fail), by first | exact True.intro | with_reducible assumption | exact unhid (by with_reducible assumption) | rfl | omega | trivial, by first | exact True.intro | with_reducible assumption | exact unhid (by with_reducible assumption) | rfl | omega | trivial, by first | exact True.intro | with_reducible assumption | exact unhid (by with_reducible assumption) | rfl | omega | trivial, by first | exact True.intro | with_reducible assumption | exact unhid (by with_reducible assumption) | rfl | omega | trivial, by first | exact True.intro | with_reducible assumption | exact unhid (by with_reducible assumption) | rfl | omega | trivial⟩⟩)⟩
  · skip
    refine go_ifq PM167 (k := 4) (p1 := 30) (p2 := 20) (L' := [some (.inr (.inr (some 79))), some (.inl 0)]) (st' := []) (w' := (SH, dt)) rfl (c_eq (a := dt 79 14) (b := 2) (by first | exact bnd r4 (by decide) (by decide) | exact ⟨by fail, by fail⟩) ⟨by decide, by decide⟩) (fun c19 => ?_) (fun c19 => ?_)
    · skip
      have r20 : 0 ≤ dt 79 16 ∧ dt 79 16 ≤ 9999 := InvC_get hI 79 16 rfl rfl
      refine go_toq PM167 (k := 6) (pc' := 50) (L' := [some (.inr (.inr (some 79))), some (.inl 0)]) (st' := [.inl (dt 79 16), .inl 0, .inr (.inr (some 79))]) (w' := (SH, dt)) rfl ?_
      refine go_callq PM167 PM163 (Q' := _) rfl rfl rfl rfl (sp_X6_lay L xs sio (d + 6) dt hI  0 ⟨by decide, by decide⟩ (dt 79 16) (by first | exact bnd r20 (by decide) (by decide) | exact ⟨by fail, by fail⟩) (by first | exact True.intro | with_reducible assumption | rfl | omega | trivial)) ?_
      rintro _ _ ⟨dt22, rfl, hI23, hF24, h21⟩
      refine ⟨rfl, ?_⟩
      have hF25 : Fr [79, 84] dt dt22 := Fr_tr hF hF24 (by decide)
      rcases h21 with ⟨rfl, h21⟩
      obtain ⟨h21_0, h21_1, h21_2, h21_3, h21_4, h21_5, h21_6, h21_7, h21_8, h21_9, h21_10, h21_11, h21_12⟩ := h21
      refine go_toq PM167 (k := 1) (pc' := 54) (L' := [some (.inr (.inr (some 79))), some (.inl 0)]) (st' := [.inr (.inr (some 79))]) (w' := (SH, dt22)) rfl ?_
      refine go_callq PM167 PM159 (Q' := _) rfl rfl rfl rfl (sp_X6_next0 L xs sio (d + 0) dt22 hI23   (by first | exact True.intro | with_reducible assumption | rfl | omega | trivial)) ?_
      rintro _ _ ⟨dt27, rfl, hI28, hF29, h26⟩
      refine ⟨rfl, ?_⟩
      have hF30 : Fr [79, 84] dt dt27 := Fr_tr hF25 hF29 (by decide)
      have E8431 : dt27 84 = dt22 84 := funext (hF29 84 (by decide))
      rcases h26 with ⟨rfl, h26⟩
      obtain ⟨h26_0, h26_1, h26_2, h26_3, h26_4, h26_5, h26_6, h26_7, h26_8⟩ := h26
      refine go_retq PM167 (k := 1) (r := some (.inl 1)) (w1 := (SH, dt27)) rfl ?_
      exact ⟨dt27, rfl, hI28, hF30, (Or.inr ⟨rfl, ⟨by first | exact True.intro | with_reducible assumption | rfl | omega | trivial, by first | exact True.intro | with_reducible assumption | rfl | omega | trivial, by first | exact True.intro | with_reducible assumption | rfl | fail | trivial, by exact (InvC_get (by assumption) 79 15 rfl rfl).2, by first | assumption | exact PS_bin (by assumption) (by assumption) (by assumption) (by assumption) (by first | assumption | rfl) (by assumption) (by fail) (by fail) (by fail) | exact PS_un (by assumption) (by assumption) (by assumption) (by first | assumption | rfl) (by assumption) (by fail) (by fail) (by fail) (by fail) | exact PS_eq (by assumption) (by first | rfl | assumption) (by fail) (by fail) | exact PS_eq (by assumption) (by assumption) (by fail) (by fail) | exact PS_unit2 (by assumption) (by assumption) (by omega) (by omega) (by omega), by first | assumption | exact AGR_rfl | exact AGR_4 (by assumption) (by assumption) (by first | rfl | assumption) (by omega) | exact AGR_4 (by assumption) (by assumption) (by assumption) (by fail) | exact AGR_e (by assumption) | exact AGR_2 (by assumption) (by first | rfl | assumption) (by fail) | exact AGR_2 (by assumption) (by assumption) (by fail) | exact AGR_tr (by assumption) (by first | assumption | rfl) (by assumption) (by fail) | exact AGR_tr (by assumption) (by first | assumption | rfl) (AGR_tr (by assumption) (by first | assumption | rfl) (by assumption) (by fail)) (by fail) | exact AGR_tr (by assumption) (by first | assumption | rfl) (AGR_2 (by assumption) (by first | assumption | rfl) (by fail)) (by fail) | exact AGR_tr (by assumption) (by first | assumption | rfl) (AGR_tr (by assumption) (by first | assumption | rfl) (AGR_2 (by assumption) (by first | assumption | rfl) (by fail)) (by fail)) (by fail), by first | exact True.intro | with_reducible assumption | rfl | omega | trivial, by first | exact True.intro | with_reducible assumption | rfl | omega | trivial, by first | exact True.intro | with_reducible assumption | rfl | omega | trivial, by first | exact True.intro | with_reducible assumption | rfl | omega | trivial, by first | exact True.intro | with_reducible assumption | rfl | omega | trivial⟩⟩)⟩
    · skip
      replace c19 := hid c19
      refine go_toq PM167 (k := 4) (pc' := 26) (L' := [some (.inr (.inr (some 79))), some (.inl 0)]) (st' := [.inl 1, .inr (.inr (some 79))]) (w' := (SH, dt)) rfl ?_
      refine go_callq PM167 PM160 (Q' := _) rfl rfl rfl rfl (sp_X6_bad L xs sio (d + 6) dt hI  1 ⟨by decide, by decide⟩ ) ?_
      rintro _ _ ⟨dt33, rfl, hI34, hF35, h32⟩
      refine ⟨rfl, ?_⟩
      have hF36 : Fr [79, 84] dt dt33 := Fr_tr hF hF35 (by decide)
      have E8437 : dt33 84 = dt 84 := funext (hF35 84 (by decide))
      rcases h32 with ⟨rfl, h32⟩
      obtain ⟨h32_0, h32_1, h32_2, h32_3, h32_4, h32_5⟩ := h32
      refine go_retq PM167 (k := 0) (r := some (.inl 0)) (w1 := (SH, dt33)) rfl ?_
      exact ⟨dt33, rfl, hI34, hF36, (Or.inl ⟨rfl, ⟨by first | exact True.intro | with_reducible assumption | exact unhid (by with_reducible assumption) | rfl | fail | trivial, by first | exact True.intro | with_reducible assumption | exact unhid (by with_reducible assumption) | rfl | fail | trivial, by first | exact True.intro | with_reducible assumption | exact unhid (by with_reducible assumption) | rfl | fail | trivial, by first | exact True.intro | with_reducible assumption | exact unhid (by with_reducible assumption) | rfl | fail | trivial⟩⟩)⟩
set_option maxRecDepth 20000 in
theorem sp_X6_product (L : Nat) (xs : Nat → Int32) (sio : Option Nat) (d : Nat) (dt : Nat → Nat → Int) (hI : InvC dt)   (h_p0 : (¬ dt 79 14 = 0 → dt 79 15 + 1 ≤ dt 79 13) ∧ dt 79 13 ≤ 500) (h_p1 : dt 79 11 ≤ dt 79 15) : GO (am_XX L xs sio) (d + 8) 166 0 [some (.inr (.inr (some 79))), none, none] [] (SH, dt) (fun r w2 => ∃ dt2 : Nat → Nat → Int, w2 = (SH, dt2) ∧ InvC dt2 ∧ Fr [79, 84] dt dt2 ∧ ((r = some (.inl 0) ∧ (dt2 79 2 = dt 79 2) ∧ (dt2 79 9 = dt 79 9) ∧ (dt2 79 10 = dt 79 10) ∧ (dt2 79 12 = dt 79 12)) ∨ (r = some (.inl 1) ∧ (dt 79 15 + dt2 79 11 ≤ dt2 79 15 + dt 79 11) ∧ (dt 79 11 + 1 ≤ dt2 79 11) ∧ ((¬ dt2 79 14 = 0 → dt2 79 15 + 1 ≤ dt2 79 13) ∧ dt2 79 13 ≤ 500) ∧ (dt2 79 15 ≤ 500) ∧ (PS (dt2 84) (dt 79 11) (dt2 79 11)) ∧ (AGR (dt2 84) (dt 84) (dt 79 11)) ∧ (dt2 79 2 = dt 79 2) ∧ (dt2 79 9 = dt 79 9) ∧ (dt2 79 10 = dt 79 10) ∧ (dt2 79 12 = dt 79 12) ∧ (dt2 79 20 = dt 79 20)))) := by
  have hF : Fr [79, 84] dt dt := Fr_refl
  have r1 : 0 ≤ dt 79 15 ∧ dt 79 15 ≤ 500 := InvC_get hI 79 15 rfl rfl
  have r2 : 0 ≤ dt 79 11 ∧ dt 79 11 ≤ 510 := InvC_get hI 79 11 rfl rfl
  have r3 : 0 ≤ dt 79 10 ∧ dt 79 10 ≤ 24 := InvC_get hI 79 10 rfl rfl
  refine go_toq PM166 (k := 1) (pc' := 1) (L' := [some (.inr (.inr (some 79))), none, none]) (st' := [.inr (.inr (some 79))]) (w' := (SH, dt)) rfl ?_
  refine go_callq PM166 PM167 (Q' := _) rfl rfl rfl rfl (sp_X6_unit L xs sio (d + 0) dt hI   (by first | exact True.intro | with_reducible assumption | rfl | fail | trivial) (by first | exact True.intro | with_reducible assumption | rfl | fail | trivial)) ?_
  rintro _ _ ⟨dt5, rfl, hI6, hF7, h4⟩
  refine ⟨rfl, ?_⟩
  have hF8 : Fr [79, 84] dt dt5 := Fr_tr hF hF7 (by decide)
  rcases h4 with ⟨rfl, h4⟩ | ⟨rfl, h4⟩
  · skip
    obtain ⟨h4_0, h4_1, h4_2, h4_3⟩ := h4
    refine go_retq PM166 (k := 2) (r := some (.inl 0)) (w1 := (SH, dt5)) rfl ?_
    exact ⟨dt5, rfl, hI6, hF8, (Or.inl ⟨rfl, ⟨by first | exact True.intro | with_reducible assumption | rfl | fail | trivial, by first | exact True.intro | with_reducible assumption | rfl | fail | trivial, by first | exact True.intro | with_reducible assumption | rfl | fail | trivial, by first | exact True.intro | with_reducible assumption | rfl | fail | trivial⟩⟩)⟩
  · skip
    obtain ⟨h4_0, h4_1, h4_2, h4_3, h4_4, h4_5, h4_6, h4_7, h4_8, h4_9, h4_10⟩ := h4
    refine go_toq PM166 (k := 1) (pc' := 9) (L' := [some (.inr (.inr (some 79))), none, none]) (st' := []) (w' := (SH, dt5)) rfl ?_
    have loop79 : ∀ (k_ : Nat) (dt65 : Nat → Nat → Int) (hI66 : InvC dt65) (hF67 : Fr [79, 84] dt dt65) (i68 : dt 79 15 + dt65 79 11 ≤ dt65 79 15 + dt 79 11) (i69 : dt 79 11 + 1 ≤ dt65 79 11) (i70 : (¬ dt65 79 14 = 0 → dt65 79 15 + 1 ≤ dt65 79 13) ∧ dt65 79 13 ≤ 500) (i71 : dt65 79 15 ≤ 500) (i72 : PS (dt65 84) (dt 79 11) (dt65 79 11)) (i73 : AGR (dt65 84) (dt 84) (dt 79 11)) (i74 : dt65 79 2 = dt 79 2) (i75 : dt65 79 9 = dt 79 9) (i76 : dt65 79 10 = dt 79 10) (i77 : dt65 79 12 = dt 79 12) (i78 : dt65 79 20 = dt 79 20), (502 - dt65 79 15).toNat < k_ → GO (am_XX L xs sio) (d + 8) 166 9 [some (.inr (.inr (some 79))), none, none] [] (SH, dt65) (fun r w2 => ∃ dt2 : Nat → Nat → Int, w2 = (SH, dt2) ∧ InvC dt2 ∧ Fr [79, 84] dt dt2 ∧ ((r = some (.inl 0) ∧ (dt2 79 2 = dt 79 2) ∧ (dt2 79 9 = dt 79 9) ∧ (dt2 79 10 = dt 79 10) ∧ (dt2 79 12 = dt 79 12)) ∨ (r = some (.inl 1) ∧ (dt 79 15 + dt2 79 11 ≤ dt2 79 15 + dt 79 11) ∧ (dt 79 11 + 1 ≤ dt2 79 11) ∧ ((¬ dt2 79 14 = 0 → dt2 79 15 + 1 ≤ dt2 79 13) ∧ dt2 79 13 ≤ 500) ∧ (dt2 79 15 ≤ 500) ∧ (PS (dt2 84) (dt 79 11) (dt2 79 11)) ∧ (AGR (dt2 84) (dt 84) (dt 79 11)) ∧ (dt2 79 2 = dt 79 2) ∧ (dt2 79 9 = dt 79 9) ∧ (dt2 79 10 = dt 79 10) ∧ (dt2 79 12 = dt 79 12) ∧ (dt2 79 20 = dt 79 20)))) := by
      intro k_
      induction k_ with
      | zero => intro dt65 hI66 hF67 i68 i69 i70 i71 i72 i73 i74 i75 i76 i77 i78 hm; exact absurd hm (Nat.not_lt_zero _)
      | succ k_ ih_loop79 =>
        intro dt65 hI66 hF67 i68 i69 i70 i71 i72 i73 i74 i75 i76 i77 i78 hm
        have r80 : (-2147483648) ≤ dt65 79 14 ∧ dt65 79 14 ≤ 2147483647 := InvC_get hI66 79 14 rfl rfl
        refine go_ifq PM166 (k := 3) (p1 := 29) (p2 := 19) (L' := [some (.inr (.inr (some 79))), none, none]) (st' := []) (w' := (SH, dt65)) rfl (c_eq (a := dt65 79 14) (b := 142) (by first | exact bnd r80 (by decide) (by decide) | exact ⟨by fail, by fail⟩) ⟨by decide, by decide⟩) (fun c81 => ?_) (fun c81 => ?_)
        · skip
          refine go_ifq PM166 (k := 3) (p1 := 43) (p2 := 39) (L' := [some (.inr (.inr (some 79))), none, none]) (st' := []) (w' := (SH, dt65)) rfl (c_ne (a := dt65 79 14) (b := 147) (by first | exact bnd r80 (by decide) (by decide) | exact ⟨by fail, by fail⟩) ⟨by decide, by decide⟩) (fun c82 => ?_) (fun c82 => ?_)
          · skip
            replace c82 := hid c82
            refine go_toq PM166 (k := 3) (pc' := 46) (L' := [some (.inr (.inr (some 79))), some (.inl 0), none]) (st' := [.inr (.inr (some 79))]) (w' := (SH, dt65)) rfl ?_
            refine go_callq PM166 PM159 (Q' := _) rfl rfl rfl rfl (sp_X6_next0 L xs sio (d + 1) dt65 hI66   (by first | exact True.intro | with_reducible assumption | exact unhid (by with_reducible assumption) | rfl | omega | trivial)) ?_
            rintro _ _ ⟨dt84, rfl, hI85, hF86, h83⟩
            refine ⟨rfl, ?_⟩
            have hF87 : Fr [79, 84] dt dt84 := Fr_tr hF67 hF86 (by decide)
            have E8488 : dt84 84 = dt65 84 := funext (hF86 84 (by decide))
            rcases h83 with ⟨rfl, h83⟩
            obtain ⟨h83_0, h83_1, h83_2, h83_3, h83_4, h83_5, h83_6, h83_7, h83_8⟩ := h83
            refine go_toq PM166 (k := 3) (pc' := 82) (L' := [some (.inr (.inr (some 79))), some (.inl 0), none]) (st' := [.inr (.inr (some 79))]) (w' := (SH, dt84)) rfl ?_
            refine go_callq PM166 PM167 (Q' := _) rfl rfl rfl rfl (sp_X6_unit L xs sio (d + 0) dt84 hI85   (by first | exact True.intro | with_reducible assumption | exact unhid (by with_reducible assumption) | rfl | fail | trivial) (by first | exact True.intro | with_reducible assumption | exact unhid (by with_reducible assumption) | rfl | omega | trivial)) ?_
            rintro _ _ ⟨dt90, rfl, hI91, hF92, h89⟩
            refine ⟨rfl, ?_⟩
            have hF93 : Fr [79, 84] dt dt90 := Fr_tr hF87 hF92 (by decide)
            rcases h89 with ⟨rfl, h89⟩ | ⟨rfl, h89⟩
            · skip
              obtain ⟨h89_0, h89_1, h89_2, h89_3⟩ := h89
              refine go_retq PM166 (k := 2) (r := some (.inl 0)) (w1 := (SH, dt90)) rfl ?_
              exact ⟨dt90, rfl, hI91, hF93, (Or.inl ⟨rfl, ⟨by first | exact True.intro | with_reducible assumption | exact unhid (by with_reducible assumption) | rfl | omega | trivial, by first | exact True.intro | with_reducible assumption | exact unhid (by with_reducible assumption) | rfl | omega | trivial, by first | exact True.intro | with_reducible assumption | exact unhid (by with_reducible assumption) | rfl | omega | trivial, by first | exact True.intro | with_reducible assumption | exact unhid (by with_reducible assumption) | rfl | omega | trivial⟩⟩)⟩
            · skip
              obtain ⟨h89_0, h89_1, h89_2, h89_3, h89_4, h89_5, h89_6, h89_7, h89_8, h89_9, h89_10⟩ := h89
              refine go_toq PM166 (k := 4) (pc' := 94) (L' := [some (.inr (.inr (some 79))), some (.inl 0), none]) (st' := [.inl 0, .inl 9, .inr (.inr (some 79))]) (w' := (SH, dt90)) rfl ?_
              refine go_callq PM166 PM163 (Q' := _) rfl rfl rfl rfl (sp_X6_lay L xs sio (d + 7) dt90 hI91  9 ⟨by decide, by decide⟩ 0 ⟨by decide, by decide⟩ (by first | exact True.intro | with_reducible assumption | exact unhid (by with_reducible assumption) | rfl | omega | trivial)) ?_
              rintro _ _ ⟨dt95, rfl, hI96, hF97, h94⟩
              refine ⟨rfl, ?_⟩
              have hF98 : Fr [79, 84] dt dt95 := Fr_tr hF93 hF97 (by decide)
              rcases h94 with ⟨rfl, h94⟩
              obtain ⟨h94_0, h94_1, h94_2, h94_3, h94_4, h94_5, h94_6, h94_7, h94_8, h94_9, h94_10, h94_11, h94_12⟩ := h94
              refine go_toq PM166 (k := 1) (pc' := 9) (L' := [some (.inr (.inr (some 79))), some (.inl 0), none]) (st' := []) (w' := (SH, dt95)) rfl ?_
              exact GO.le (ih_loop79 dt95 hI96 hF98 (by omega) (by omega) (by omega) (by omega) (by first | assumption | exact PS_bin (by assumption) (by assumption) (by assumption) (by assumption) (by first | assumption | rfl) (by assumption) (by omega) (by omega) (by omega) | exact PS_un (by assumption) (by assumption) (by assumption) (by first | assumption | rfl) (by assumption) (by fail) (by fail) (by fail) (by fail) | exact PS_eq (by assumption) (by first | rfl | assumption) (by fail) (by fail) | exact PS_eq (by assumption) (by assumption) (by fail) (by fail) | exact PS_unit2 (by assumption) (by assumption) (by fail) (by fail) (by fail)) (by first | assumption | exact AGR_rfl | exact AGR_4 (by assumption) (by assumption) (by first | rfl | assumption) (by fail) | exact AGR_4 (by assumption) (by assumption) (by assumption) (by fail) | exact AGR_e (by assumption) | exact AGR_2 (by assumption) (by first | rfl | assumption) (by fail) | exact AGR_2 (by assumption) (by assumption) (by fail) | exact AGR_tr (by assumption) (by first | assumption | rfl) (by assumption) (by fail) | exact AGR_tr (by assumption) (by first | assumption | rfl) (AGR_tr (by assumption) (by first | assumption | rfl) (by assumption) (by omega)) (by omega) | exact AGR_tr (by assumption) (by first | assumption | rfl) (AGR_2 (by assumption) (by first | assumption | rfl) (by fail)) (by fail) | exact AGR_tr (by assumption) (by first | assumption | rfl) (AGR_tr (by assumption) (by first | assumption | rfl) (AGR_2 (by assumption) (by first | assumption | rfl) (by fail)) (by fail)) (by fail)) (by omega) (by omega) (by omega) (by omega) (by omega) (by omega)) ⟨.inl rfl, .inr ⟨rfl, trivial⟩, .inl rfl, trivial⟩
          · exfalso; omega
        · skip
          replace c81 := hid c81
          refine go_ifq PM166 (k := 3) (p1 := 100) (p2 := 29) (L' := [some (.inr (.inr (some 79))), none, none]) (st' := []) (w' := (SH, dt65)) rfl (c_ne (a := dt65 79 14) (b := 147) (by first | exact bnd r80 (by decide) (by decide) | exact ⟨by fail, by fail⟩) ⟨by decide, by decide⟩) (fun c99 => ?_) (fun c99 => ?_)
          · skip
            replace c99 := hid c99
            refine go_retq PM166 (k := 1) (r := some (.inl 1)) (w1 := (SH, dt65)) rfl ?_
            exact ⟨dt65, rfl, hI66, hF67, (Or.inr ⟨rfl, ⟨by first | exact True.intro | with_reducible assumption | exact unhid (by with_reducible assumption) | rfl | fail | trivial, by first | exact True.intro | with_reducible assumption | exact unhid (by with_reducible assumption) | rfl | fail | trivial, by first | exact True.intro | with_reducible assumption | exact unhid (by with_reducible assumption) | rfl | fail | trivial, by exact (InvC_get (by assumption) 79 15 rfl rfl).2, by first | assumption | exact PS_bin (by assumption) (by assumption) (by assumption) (by assumption) (by first | assumption | rfl) (by assumption) (by fail) (by fail) (by fail) | exact PS_un (by assumption) (by assumption) (by assumption) (by first | assumption | rfl) (by assumption) (by fail) (by fail) (by fail) (by fail) | exact PS_eq (by assumption) (by first | rfl | assumption) (by fail) (by fail) | exact PS_eq (by assumption) (by assumption) (by fail) (by fail) | exact PS_unit2 (by assumption) (by assumption) (by fail) (by fail) (by fail), by first | assumption | exact AGR_rfl | exact AGR_4 (by assumption) (by assumption) (by first | rfl | assumption) (by fail) | exact AGR_4 (by assumption) (by assumption) (by assumption) (by fail) | exact AGR_e (by assumption) | exact AGR_2 (by assumption) (by first | rfl | assumption) (by fail) | exact AGR_2 (by assumption) (by assumption) (by fail) | exact AGR_tr (by assumption) (by first | assumption | rfl) (by assumption) (by fail) | exact AGR_tr (by assumption) (by first | assumption | rfl) (AGR_tr (by assumption) (by first | assumption | rfl) (by assumption) (by fail)) (by fail) | exact AGR_tr (by assumption) (by first | assumption | rfl) (AGR_2 (by assumption) (by first | assumption | rfl) (by fail)) (by fail) | exact AGR_tr (by assumption) (by first | assumption | rfl) (AGR_tr (by assumption) (by first | assumption | rfl) (AGR_2 (by assumption) (by first | assumption | rfl) (by fail)) (by fail)) (by fail), by first | exact True.intro | with_reducible assumption | exact unhid (by with_reducible assumption) | rfl | fail | trivial, by first | exact True.intro | with_reducible assumption | exact unhid (by with_reducible assumption) | rfl | fail | trivial, by first | exact True.intro | with_reducible assumption | exact unhid (by with_reducible assumption) | rfl | fail | trivial, by first | exact True.intro | with_reducible assumption | exact unhid (by with_reducible assumption) | rfl | fail | trivial, by first | exact True.intro | with_reducible assumption | exact unhid (by with_reducible assumption) | rfl | fail | trivial⟩⟩)⟩
          · skip
            refine go_ifq PM166 (k := 3) (p1 := 43) (p2 := 39) (L' := [some (.inr (.inr (some 79))), none, none]) (st' := []) (w' := (SH, dt65)) rfl (c_ne (a := dt65 79 14) (b := 147) (by first | exact bnd r80 (by decide) (by decide) | exact ⟨by fail, by fail⟩) ⟨by decide, by decide⟩) (fun c100 => ?_) (fun c100 => ?_)
            · skip
              replace c100 := hid c100
              refine go_toq PM166 (k := 3) (pc' := 46) (L' := [some (.inr (.inr (some 79))), some (.inl 0), none]) (st' := [.inr (.inr (some 79))]) (w' := (SH, dt65)) rfl ?_
              refine go_callq PM166 PM159 (Q' := _) rfl rfl rfl rfl (sp_X6_next0 L xs sio (d + 1) dt65 hI66   (by first | exact True.intro | with_reducible assumption | exact unhid (by with_reducible assumption) | rfl | omega | trivial)) ?_
              rintro _ _ ⟨dt102, rfl, hI103, hF104, h101⟩
              refine ⟨rfl, ?_⟩
              have hF105 : Fr [79, 84] dt dt102 := Fr_tr hF67 hF104 (by decide)
              have E84106 : dt102 84 = dt65 84 := funext (hF104 84 (by decide))
              rcases h101 with ⟨rfl, h101⟩
              obtain ⟨h101_0, h101_1, h101_2, h101_3, h101_4, h101_5, h101_6, h101_7, h101_8⟩ := h101
              refine go_toq PM166 (k := 3) (pc' := 82) (L' := [some (.inr (.inr (some 79))), some (.inl 0), none]) (st' := [.inr (.inr (some 79))]) (w' := (SH, dt102)) rfl ?_
              refine go_callq PM166 PM167 (Q' := _) rfl rfl rfl rfl (sp_X6_unit L xs sio (d + 0) dt102 hI103   (by first | exact True.intro | with_reducible assumption | exact unhid (by with_reducible assumption) | rfl | fail | trivial) (by first | exact True.intro | with_reducible assumption | exact unhid (by with_reducible assumption) | rfl | omega | trivial)) ?_
              rintro _ _ ⟨dt108, rfl, hI109, hF110, h107⟩
              refine ⟨rfl, ?_⟩
              have hF111 : Fr [79, 84] dt dt108 := Fr_tr hF105 hF110 (by decide)
              rcases h107 with ⟨rfl, h107⟩ | ⟨rfl, h107⟩
              · skip
                obtain ⟨h107_0, h107_1, h107_2, h107_3⟩ := h107
                refine go_retq PM166 (k := 2) (r := some (.inl 0)) (w1 := (SH, dt108)) rfl ?_
                exact ⟨dt108, rfl, hI109, hF111, (Or.inl ⟨rfl, ⟨by first | exact True.intro | with_reducible assumption | exact unhid (by with_reducible assumption) | rfl | omega | trivial, by first | exact True.intro | with_reducible assumption | exact unhid (by with_reducible assumption) | rfl | omega | trivial, by first | exact True.intro | with_reducible assumption | exact unhid (by with_reducible assumption) | rfl | omega | trivial, by first | exact True.intro | with_reducible assumption | exact unhid (by with_reducible assumption) | rfl | omega | trivial⟩⟩)⟩
              · skip
                obtain ⟨h107_0, h107_1, h107_2, h107_3, h107_4, h107_5, h107_6, h107_7, h107_8, h107_9, h107_10⟩ := h107
                refine go_toq PM166 (k := 4) (pc' := 94) (L' := [some (.inr (.inr (some 79))), some (.inl 0), none]) (st' := [.inl 0, .inl 9, .inr (.inr (some 79))]) (w' := (SH, dt108)) rfl ?_
                refine go_callq PM166 PM163 (Q' := _) rfl rfl rfl rfl (sp_X6_lay L xs sio (d + 7) dt108 hI109  9 ⟨by decide, by decide⟩ 0 ⟨by decide, by decide⟩ (by first | exact True.intro | with_reducible assumption | exact unhid (by with_reducible assumption) | rfl | omega | trivial)) ?_
                rintro _ _ ⟨dt113, rfl, hI114, hF115, h112⟩
                refine ⟨rfl, ?_⟩
                have hF116 : Fr [79, 84] dt dt113 := Fr_tr hF111 hF115 (by decide)
                rcases h112 with ⟨rfl, h112⟩
                obtain ⟨h112_0, h112_1, h112_2, h112_3, h112_4, h112_5, h112_6, h112_7, h112_8, h112_9, h112_10, h112_11, h112_12⟩ := h112
                refine go_toq PM166 (k := 1) (pc' := 9) (L' := [some (.inr (.inr (some 79))), some (.inl 0), none]) (st' := []) (w' := (SH, dt113)) rfl ?_
                exact GO.le (ih_loop79 dt113 hI114 hF116 (by omega) (by omega) (by omega) (by omega) (by first | assumption | exact PS_bin (by assumption) (by assumption) (by assumption) (by assumption) (by first | assumption | rfl) (by assumption) (by omega) (by omega) (by omega) | exact PS_un (by assumption) (by assumption) (by assumption) (by first | assumption | rfl) (by assumption) (by fail) (by fail) (by fail) (by fail) | exact PS_eq (by assumption) (by first | rfl | assumption) (by fail) (by fail) | exact PS_eq (by assumption) (by assumption) (by fail) (by fail) | exact PS_unit2 (by assumption) (by assumption) (by fail) (by fail) (by fail)) (by first | assumption | exact AGR_rfl | exact AGR_4 (by assumption) (by assumption) (by first | rfl | assumption) (by fail) | exact AGR_4 (by assumption) (by assumption) (by assumption) (by fail) | exact AGR_e (by assumption) | exact AGR_2 (by assumption) (by first | rfl | assumption) (by fail) | exact AGR_2 (by assumption) (by assumption) (by fail) | exact AGR_tr (by assumption) (by first | assumption | rfl) (by assumption) (by fail) | exact AGR_tr (by assumption) (by first | assumption | rfl) (AGR_tr (by assumption) (by first | assumption | rfl) (by assumption) (by omega)) (by omega) | exact AGR_tr (by assumption) (by first | assumption | rfl) (AGR_2 (by assumption) (by first | assumption | rfl) (by fail)) (by fail) | exact AGR_tr (by assumption) (by first | assumption | rfl) (AGR_tr (by assumption) (by first | assumption | rfl) (AGR_2 (by assumption) (by first | assumption | rfl) (by fail)) (by fail)) (by fail)) (by omega) (by omega) (by omega) (by omega) (by omega) (by omega)) ⟨.inl rfl, .inr ⟨rfl, trivial⟩, .inl rfl, trivial⟩
            · skip
              refine go_toq PM166 (k := 4) (pc' := 46) (L' := [some (.inr (.inr (some 79))), some (.inl 1), none]) (st' := [.inr (.inr (some 79))]) (w' := (SH, dt65)) rfl ?_
              refine go_callq PM166 PM159 (Q' := _) rfl rfl rfl rfl (sp_X6_next0 L xs sio (d + 1) dt65 hI66   (by first | exact True.intro | with_reducible assumption | exact unhid (by with_reducible assumption) | rfl | omega | trivial)) ?_
              rintro _ _ ⟨dt118, rfl, hI119, hF120, h117⟩
              refine ⟨rfl, ?_⟩
              have hF121 : Fr [79, 84] dt dt118 := Fr_tr hF67 hF120 (by decide)
              have E84122 : dt118 84 = dt65 84 := funext (hF120 84 (by decide))
              rcases h117 with ⟨rfl, h117⟩
              obtain ⟨h117_0, h117_1, h117_2, h117_3, h117_4, h117_5, h117_6, h117_7, h117_8⟩ := h117
              have r123 : 0 ≤ dt118 79 16 ∧ dt118 79 16 ≤ 9999 := InvC_get hI119 79 16 rfl rfl
              refine go_toq PM166 (k := 8) (pc' := 63) (L' := [some (.inr (.inr (some 79))), some (.inl 1), some (.inl (dt118 79 16))]) (st' := [.inl 9999, .inl 1, .inr (.inr (some 79))]) (w' := (SH, dt118)) rfl ?_
              refine go_callq PM166 PM162 (Q' := _) rfl rfl rfl rfl (sp_X6_number L xs sio (d + 0) dt118 hI119  1 ⟨by decide, by decide⟩ 9999 ⟨by decide, by decide⟩ (by first | exact True.intro | with_reducible assumption | exact unhid (by with_reducible assumption) | rfl | fail | trivial)) ?_
              rintro _ _ ⟨dt125, rfl, hI126, hF127, h124⟩
              refine ⟨rfl, ?_⟩
              have hF128 : Fr [79, 84] dt dt125 := Fr_tr hF121 hF127 (by decide)
              have E84129 : dt125 84 = dt65 84 := (funext (hF127 84 (by decide))).trans E84122
              rcases h124 with ⟨rfl, h124⟩ | ⟨rfl, h124⟩
              · skip
                obtain ⟨h124_0, h124_1, h124_2, h124_3⟩ := h124
                refine go_retq PM166 (k := 2) (r := some (.inl 0)) (w1 := (SH, dt125)) rfl ?_
                exact ⟨dt125, rfl, hI126, hF128, (Or.inl ⟨rfl, ⟨by first | exact True.intro | with_reducible assumption | exact unhid (by with_reducible assumption) | rfl | omega | trivial, by first | exact True.intro | with_reducible assumption | exact unhid (by with_reducible assumption) | rfl | omega | trivial, by first | exact True.intro | with_reducible assumption | exact unhid (by with_reducible assumption) | rfl | omega | trivial, by first | exact True.intro | with_reducible assumption | exact unhid (by with_reducible assumption) | rfl | omega | trivial⟩⟩)⟩
              · skip
                obtain ⟨h124_0, h124_1, h124_2, h124_3, h124_4, h124_5, h124_6, h124_7, h124_8, h124_9, h124_10⟩ := h124
                refine go_toq PM166 (k := 4) (pc' := 75) (L' := [some (.inr (.inr (some 79))), some (.inl 1), some (.inl (dt118 79 16))]) (st' := [.inl (dt118 79 16), .inl 10, .inr (.inr (some 79))]) (w' := (SH, dt125)) rfl ?_
                refine go_callq PM166 PM163 (Q' := _) rfl rfl rfl rfl (sp_X6_lay L xs sio (d + 7) dt125 hI126  10 ⟨by decide, by decide⟩ (dt118 79 16) (by first | exact bnd r123 (by decide) (by decide) | exact ⟨by fail, by fail⟩) (by first | exact True.intro | with_reducible assumption | exact unhid (by with_reducible assumption) | rfl | omega | trivial)) ?_
                rintro _ _ ⟨dt131, rfl, hI132, hF133, h130⟩
                refine ⟨rfl, ?_⟩
                have hF134 : Fr [79, 84] dt dt131 := Fr_tr hF128 hF133 (by decide)
                rcases h130 with ⟨rfl, h130⟩
                obtain ⟨h130_0, h130_1, h130_2, h130_3, h130_4, h130_5, h130_6, h130_7, h130_8, h130_9, h130_10, h130_11, h130_12⟩ := h130
                refine go_toq PM166 (k := 2) (pc' := 9) (L' := [some (.inr (.inr (some 79))), some (.inl 1), some (.inl (dt118 79 16))]) (st' := []) (w' := (SH, dt131)) rfl ?_
                exact GO.le (ih_loop79 dt131 hI132 hF134 (by omega) (by omega) (by omega) (by omega) (by first | assumption | exact PS_bin (by assumption) (by assumption) (by assumption) (by assumption) (by first | assumption | rfl) (by assumption) (by fail) (by fail) (by fail) | exact PS_un (by assumption) (by assumption) (by assumption) (by first | assumption | rfl) (by assumption) (by omega) (by omega) (by omega) (by omega) | exact PS_eq (by assumption) (by first | rfl | assumption) (by fail) (by fail) | exact PS_eq (by assumption) (by assumption) (by fail) (by fail) | exact PS_unit2 (by assumption) (by assumption) (by fail) (by fail) (by fail)) (by first | assumption | exact AGR_rfl | exact AGR_4 (by assumption) (by assumption) (by first | rfl | assumption) (by fail) | exact AGR_4 (by assumption) (by assumption) (by assumption) (by fail) | exact AGR_e (by assumption) | exact AGR_2 (by assumption) (by first | rfl | assumption) (by fail) | exact AGR_2 (by assumption) (by assumption) (by fail) | exact AGR_tr (by assumption) (by first | assumption | rfl) (by assumption) (by omega) | exact AGR_tr (by assumption) (by first | assumption | rfl) (AGR_tr (by assumption) (by first | assumption | rfl) (by assumption) (by fail)) (by fail) | exact AGR_tr (by assumption) (by first | assumption | rfl) (AGR_2 (by assumption) (by first | assumption | rfl) (by fail)) (by fail) | exact AGR_tr (by assumption) (by first | assumption | rfl) (AGR_tr (by assumption) (by first | assumption | rfl) (AGR_2 (by assumption) (by first | assumption | rfl) (by fail)) (by fail)) (by fail)) (by omega) (by omega) (by omega) (by omega) (by omega) (by omega)) ⟨.inl rfl, .inr ⟨rfl, trivial⟩, .inr ⟨rfl, trivial⟩, trivial⟩
    exact GO.le (loop79 _ dt5 hI6 hF8 (by omega) (by omega) (by omega) (by omega) (by first | assumption | exact PS_bin (by assumption) (by assumption) (by assumption) (by assumption) (by first | assumption | rfl) (by assumption) (by fail) (by fail) (by fail) | exact PS_un (by assumption) (by assumption) (by assumption) (by first | assumption | rfl) (by assumption) (by fail) (by fail) (by fail) (by fail) | exact PS_eq (by assumption) (by first | rfl | assumption) (by fail) (by fail) | exact PS_eq (by assumption) (by assumption) (by fail) (by fail) | exact PS_unit2 (by assumption) (by assumption) (by fail) (by fail) (by fail)) (by first | assumption | exact AGR_rfl | exact AGR_4 (by assumption) (by assumption) (by first | rfl | assumption) (by fail) | exact AGR_4 (by assumption) (by assumption) (by assumption) (by fail) | exact AGR_e (by assumption) | exact AGR_2 (by assumption) (by first | rfl | assumption) (by fail) | exact AGR_2 (by assumption) (by assumption) (by fail) | exact AGR_tr (by assumption) (by first | assumption | rfl) (by assumption) (by fail) | exact AGR_tr (by assumption) (by first | assumption | rfl) (AGR_tr (by assumption) (by first | assumption | rfl) (by assumption) (by fail)) (by fail) | exact AGR_tr (by assumption) (by first | assumption | rfl) (AGR_2 (by assumption) (by first | assumption | rfl) (by fail)) (by fail) | exact AGR_tr (by assumption) (by first | assumption | rfl) (AGR_tr (by assumption) (by first | assumption | rfl) (AGR_2 (by assumption) (by first | assumption | rfl) (by fail)) (by fail)) (by fail)) (by omega) (by omega) (by omega) (by omega) (by omega) (Nat.lt_succ_self _)) ⟨.inl rfl, .inl rfl, .inl rfl, trivial⟩
set_option maxRecDepth 20000 in
theorem sp_X6_sumUp (L : Nat) (xs : Nat → Int32) (sio : Option Nat) (d : Nat) (dt : Nat → Nat → Int) (hI : InvC dt)   (h_p0 : (¬ dt 79 14 = 0 → dt 79 15 + 1 ≤ dt 79 13) ∧ dt 79 13 ≤ 500) (h_p1 : dt 79 11 ≤ dt 79 15) : GO (am_XX L xs sio) (d + 9) 165 0 [some (.inr (.inr (some 79))), none] [] (SH, dt) (fun r w2 => ∃ dt2 : Nat → Nat → Int, w2 = (SH, dt2) ∧ InvC dt2 ∧ Fr [79, 84] dt dt2 ∧ ((r = some (.inl 0) ∧ (dt2 79 2 = dt 79 2) ∧ (dt2 79 9 = dt 79 9) ∧ (dt2 79 10 = dt 79 10) ∧ (dt2 79 12 = dt 79 12)) ∨ (r = some (.inl 1) ∧ (dt 79 15 + dt2 79 11 ≤ dt2 79 15 + dt 79 11) ∧ (dt 79 11 + 1 ≤ dt2 79 11) ∧ ((¬ dt2 79 14 = 0 → dt2 79 15 + 1 ≤ dt2 79 13) ∧ dt2 79 13 ≤ 500) ∧ (dt2 79 15 ≤ 500) ∧ (PS (dt2 84) (dt 79 11) (dt2 79 11)) ∧ (AGR (dt2 84) (dt 84) (dt 79 11)) ∧ (dt2 79 2 = dt 79 2) ∧ (dt2 79 9 = dt 79 9) ∧ (dt2 79 10 = dt 79 10) ∧ (dt2 79 12 = dt 79 12) ∧ (dt2 79 20 = dt 79 20)))) := by
  have hF : Fr [79, 84] dt dt := Fr_refl
  have r1 : 0 ≤ dt 79 15 ∧ dt 79 15 ≤ 500 := InvC_get hI 79 15 rfl rfl
  have r2 : 0 ≤ dt 79 11 ∧ dt 79 11 ≤ 510 := InvC_get hI 79 11 rfl rfl
  have r3 : 0 ≤ dt 79 10 ∧ dt 79 10 ≤ 24 := InvC_get hI 79 10 rfl rfl
  refine go_toq PM165 (k := 1) (pc' := 1) (L' := [some (.inr (.inr (some 79))), none]) (st' := [.inr (.inr (some 79))]) (w' := (SH, dt)) rfl ?_
  refine go_callq PM165 PM166 (Q' := _) rfl rfl rfl rfl (sp_X6_product L xs sio (d + 0) dt hI   (by first | exact True.intro | with_reducible assumption | rfl | fail | trivial) (by first | exact True.intro | with_reducible assumption | rfl | fail | trivial)) ?_
  rintro _ _ ⟨dt5, rfl, hI6, hF7, h4⟩
  refine ⟨rfl, ?_⟩
  have hF8 : Fr [79, 84] dt dt5 := Fr_tr hF hF7 (by decide)
  rcases h4 with ⟨rfl, h4⟩ | ⟨rfl, h4⟩
  · skip
    obtain ⟨h4_0, h4_1, h4_2, h4_3⟩ := h4
    refine go_retq PM165 (k := 2) (r := some (.inl 0)) (w1 := (SH, dt5)) rfl ?_
    exact ⟨dt5, rfl, hI6, hF8, (Or.inl ⟨rfl, ⟨by first | exact True.intro | with_reducible assumption | rfl | fail | trivial, by first | exact True.intro | with_reducible assumption | rfl | fail | trivial, by first | exact True.intro | with_reducible assumption | rfl | fail | trivial, by first | exact True.intro | with_reducible assumption | rfl | fail | trivial⟩⟩)⟩
  · skip
    obtain ⟨h4_0, h4_1, h4_2, h4_3, h4_4, h4_5, h4_6, h4_7, h4_8, h4_9, h4_10⟩ := h4
    refine go_toq PM165 (k := 1) (pc' := 9) (L' := [some (.inr (.inr (some 79))), none]) (st' := []) (w' := (SH, dt5)) rfl ?_
    have loop77 : ∀ (k_ : Nat) (dt63 : Nat → Nat → Int) (hI64 : InvC dt63) (hF65 : Fr [79, 84] dt dt63) (i66 : dt 79 15 + dt63 79 11 ≤ dt63 79 15 + dt 79 11) (i67 : dt 79 11 + 1 ≤ dt63 79 11) (i68 : (¬ dt63 79 14 = 0 → dt63 79 15 + 1 ≤ dt63 79 13) ∧ dt63 79 13 ≤ 500) (i69 : dt63 79 15 ≤ 500) (i70 : PS (dt63 84) (dt 79 11) (dt63 79 11)) (i71 : AGR (dt63 84) (dt 84) (dt 79 11)) (i72 : dt63 79 2 = dt 79 2) (i73 : dt63 79 9 = dt 79 9) (i74 : dt63 79 10 = dt 79 10) (i75 : dt63 79 12 = dt 79 12) (i76 : dt63 79 20 = dt 79 20), (502 - dt63 79 15).toNat < k_ → GO (am_XX L xs sio) (d + 9) 165 9 [some (.inr (.inr (some 79))), none] [] (SH, dt63) (fun r w2 => ∃ dt2 : Nat → Nat → Int, w2 = (SH, dt2) ∧ InvC dt2 ∧ Fr [79, 84] dt dt2 ∧ ((r = some (.inl 0) ∧ (dt2 79 2 = dt 79 2) ∧ (dt2 79 9 = dt 79 9) ∧ (dt2 79 10 = dt 79 10) ∧ (dt2 79 12 = dt 79 12)) ∨ (r = some (.inl 1) ∧ (dt 79 15 + dt2 79 11 ≤ dt2 79 15 + dt 79 11) ∧ (dt 79 11 + 1 ≤ dt2 79 11) ∧ ((¬ dt2 79 14 = 0 → dt2 79 15 + 1 ≤ dt2 79 13) ∧ dt2 79 13 ≤ 500) ∧ (dt2 79 15 ≤ 500) ∧ (PS (dt2 84) (dt 79 11) (dt2 79 11)) ∧ (AGR (dt2 84) (dt 84) (dt 79 11)) ∧ (dt2 79 2 = dt 79 2) ∧ (dt2 79 9 = dt 79 9) ∧ (dt2 79 10 = dt 79 10) ∧ (dt2 79 12 = dt 79 12) ∧ (dt2 79 20 = dt 79 20)))) := by
      intro k_
      induction k_ with
      | zero => intro dt63 hI64 hF65 i66 i67 i68 i69 i70 i71 i72 i73 i74 i75 i76 hm; exact absurd hm (Nat.not_lt_zero _)
      | succ k_ ih_loop77 =>
        intro dt63 hI64 hF65 i66 i67 i68 i69 i70 i71 i72 i73 i74 i75 i76 hm
        have r78 : (-2147483648) ≤ dt63 79 14 ∧ dt63 79 14 ≤ 2147483647 := InvC_get hI64 79 14 rfl rfl
        refine go_ifq PM165 (k := 3) (p1 := 29) (p2 := 19) (L' := [some (.inr (.inr (some 79))), none]) (st' := []) (w' := (SH, dt63)) rfl (c_eq (a := dt63 79 14) (b := 143) (by first | exact bnd r78 (by decide) (by decide) | exact ⟨by fail, by fail⟩) ⟨by decide, by decide⟩) (fun c79 => ?_) (fun c79 => ?_)
        · skip
          refine go_ifq PM165 (k := 3) (p1 := 44) (p2 := 39) (L' := [some (.inr (.inr (some 79))), none]) (st' := []) (w' := (SH, dt63)) rfl (c_ne (a := dt63 79 14) (b := 143) (by first | exact bnd r78 (by decide) (by decide) | exact ⟨by fail, by fail⟩) ⟨by decide, by decide⟩) (fun c80 => ?_) (fun c80 => ?_)
          · skip
            replace c80 := hid c80
            refine go_toq PM165 (k := 3) (pc' := 48) (L' := [some (.inr (.inr (some 79))), some (.inl 8)]) (st' := [.inr (.inr (some 79))]) (w' := (SH, dt63)) rfl ?_
            refine go_callq PM165 PM159 (Q' := _) rfl rfl rfl rfl (sp_X6_next0 L xs sio (d + 2) dt63 hI64   (by first | exact True.intro | with_reducible assumption | exact unhid (by with_reducible assumption) | rfl | omega | trivial)) ?_
            rintro _ _ ⟨dt82, rfl, hI83, hF84, h81⟩
            refine ⟨rfl, ?_⟩
            have hF85 : Fr [79, 84] dt dt82 := Fr_tr hF65 hF84 (by decide)
            have E8486 : dt82 84 = dt63 84 := funext (hF84 84 (by decide))
            rcases h81 with ⟨rfl, h81⟩
            obtain ⟨h81_0, h81_1, h81_2, h81_3, h81_4, h81_5, h81_6, h81_7, h81_8⟩ := h81
            refine go_toq PM165 (k := 1) (pc' := 52) (L' := [some (.inr (.inr (some 79))), some (.inl 8)]) (st' := [.inr (.inr (some 79))]) (w' := (SH, dt82)) rfl ?_
            refine go_callq PM165 PM166 (Q' := _) rfl rfl rfl rfl (sp_X6_product L xs sio (d + 0) dt82 hI83   (by first | exact True.intro | with_reducible assumption | exact unhid (by with_reducible assumption) | rfl | fail | trivial) (by first | exact True.intro | with_reducible assumption | exact unhid (by with_reducible assumption) | rfl | omega | trivial)) ?_
            rintro _ _ ⟨dt88, rfl, hI89, hF90, h87⟩
            refine ⟨rfl, ?_⟩
            have hF91 : Fr [79, 84] dt dt88 := Fr_tr hF85 hF90 (by decide)
            rcases h87 with ⟨rfl, h87⟩ | ⟨rfl, h87⟩
            · skip
              obtain ⟨h87_0, h87_1, h87_2, h87_3⟩ := h87
              refine go_retq PM165 (k := 2) (r := some (.inl 0)) (w1 := (SH, dt88)) rfl ?_
              exact ⟨dt88, rfl, hI89, hF91, (Or.inl ⟨rfl, ⟨by first | exact True.intro | with_reducible assumption | exact unhid (by with_reducible assumption) | rfl | omega | trivial, by first | exact True.intro | with_reducible assumption | exact unhid (by with_reducible assumption) | rfl | omega | trivial, by first | exact True.intro | with_reducible assumption | exact unhid (by with_reducible assumption) | rfl | omega | trivial, by first | exact True.intro | with_reducible assumption | exact unhid (by with_reducible assumption) | rfl | omega | trivial⟩⟩)⟩
            · skip
              obtain ⟨h87_0, h87_1, h87_2, h87_3, h87_4, h87_5, h87_6, h87_7, h87_8, h87_9, h87_10⟩ := h87
              refine go_toq PM165 (k := 4) (pc' := 63) (L' := [some (.inr (.inr (some 79))), some (.inl 8)]) (st' := [.inl 0, .inl 8, .inr (.inr (some 79))]) (w' := (SH, dt88)) rfl ?_
              refine go_callq PM165 PM163 (Q' := _) rfl rfl rfl rfl (sp_X6_lay L xs sio (d + 8) dt88 hI89  8 ⟨by decide, by decide⟩ 0 ⟨by decide, by decide⟩ (by first | exact True.intro | with_reducible assumption | exact unhid (by with_reducible assumption) | rfl | omega | trivial)) ?_
              rintro _ _ ⟨dt93, rfl, hI94, hF95, h92⟩
              refine ⟨rfl, ?_⟩
              have hF96 : Fr [79, 84] dt dt93 := Fr_tr hF91 hF95 (by decide)
              rcases h92 with ⟨rfl, h92⟩
              obtain ⟨h92_0, h92_1, h92_2, h92_3, h92_4, h92_5, h92_6, h92_7, h92_8, h92_9, h92_10, h92_11, h92_12⟩ := h92
              refine go_toq PM165 (k := 1) (pc' := 9) (L' := [some (.inr (.inr (some 79))), some (.inl 8)]) (st' := []) (w' := (SH, dt93)) rfl ?_
              exact GO.le (ih_loop77 dt93 hI94 hF96 (by omega) (by omega) (by omega) (by omega) (by first | assumption | exact PS_bin (by assumption) (by assumption) (by assumption) (by assumption) (by first | assumption | rfl) (by assumption) (by omega) (by omega) (by omega) | exact PS_un (by assumption) (by assumption) (by assumption) (by first | assumption | rfl) (by assumption) (by fail) (by fail) (by fail) (by fail) | exact PS_eq (by assumption) (by first | rfl | assumption) (by fail) (by fail) | exact PS_eq (by assumption) (by assumption) (by fail) (by fail) | exact PS_unit2 (by assumption) (by assumption) (by fail) (by fail) (by fail)) (by first | assumption | exact AGR_rfl | exact AGR_4 (by assumption) (by assumption) (by first | rfl | assumption) (by fail) | exact AGR_4 (by assumption) (by assumption) (by assumption) (by fail) | exact AGR_e (by assumption) | exact AGR_2 (by assumption) (by first | rfl | assumption) (by fail) | exact AGR_2 (by assumption) (by assumption) (by fail) | exact AGR_tr (by assumption) (by first | assumption | rfl) (by assumption) (by fail) | exact AGR_tr (by assumption) (by first | assumption | rfl) (AGR_tr (by assumption) (by first | assumption | rfl) (by assumption) (by omega)) (by omega) | exact AGR_tr (by assumption) (by first | assumption | rfl) (AGR_2 (by assumption) (by first | assumption | rfl) (by fail)) (by fail) | exact AGR_tr (by assumption) (by first | assumption | rfl) (AGR_tr (by assumption) (by first | assumption | rfl) (AGR_2 (by assumption) (by first | assumption | rfl) (by fail)) (by fail)) (by fail)) (by omega) (by omega) (by omega) (by omega) (by omega) (by omega)) ⟨.inl rfl, .inr ⟨rfl, trivial⟩, trivial⟩
          · skip
            refine go_toq PM165 (k := 4) (pc' := 48) (L' := [some (.inr (.inr (some 79))), some (.inl 7)]) (st' := [.inr (.inr (some 79))]) (w' := (SH, dt63)) rfl ?_
            refine go_callq PM165 PM159 (Q' := _) rfl rfl rfl rfl (sp_X6_next0 L xs sio (d + 2) dt63 hI64   (by first | exact True.intro | with_reducible assumption | rfl | omega | trivial)) ?_
            rintro _ _ ⟨dt98, rfl, hI99, hF100, h97⟩
            refine ⟨rfl, ?_⟩
            have hF101 : Fr [79, 84] dt dt98 := Fr_tr hF65 hF100 (by decide)
            have E84102 : dt98 84 = dt63 84 := funext (hF100 84 (by decide))
            rcases h97 with ⟨rfl, h97⟩
            obtain ⟨h97_0, h97_1, h97_2, h97_3, h97_4, h97_5, h97_6, h97_7, h97_8⟩ := h97
            refine go_toq PM165 (k := 1) (pc' := 52) (L' := [some (.inr (.inr (some 79))), some (.inl 7)]) (st' := [.inr (.inr (some 79))]) (w' := (SH, dt98)) rfl ?_
            refine go_callq PM165 PM166 (Q' := _) rfl rfl rfl rfl (sp_X6_product L xs sio (d + 0) dt98 hI99   (by first | exact True.intro | with_reducible assumption | rfl | fail | trivial) (by first | exact True.intro | with_reducible assumption | rfl | omega | trivial)) ?_
            rintro _ _ ⟨dt104, rfl, hI105, hF106, h103⟩
            refine ⟨rfl, ?_⟩
            have hF107 : Fr [79, 84] dt dt104 := Fr_tr hF101 hF106 (by decide)
            rcases h103 with ⟨rfl, h103⟩ | ⟨rfl, h103⟩
            · skip
              obtain ⟨h103_0, h103_1, h103_2, h103_3⟩ := h103
              refine go_retq PM165 (k := 2) (r := some (.inl 0)) (w1 := (SH, dt104)) rfl ?_
              exact ⟨dt104, rfl, hI105, hF107, (Or.inl ⟨rfl, ⟨by first | exact True.intro | with_reducible assumption | rfl | omega | trivial, by first | exact True.intro | with_reducible assumption | rfl | omega | trivial, by first | exact True.intro | with_reducible assumption | rfl | omega | trivial, by first | exact True.intro | with_reducible assumption | rfl | omega | trivial⟩⟩)⟩
            · skip
              obtain ⟨h103_0, h103_1, h103_2, h103_3, h103_4, h103_5, h103_6, h103_7, h103_8, h103_9, h103_10⟩ := h103
              refine go_toq PM165 (k := 4) (pc' := 63) (L' := [some (.inr (.inr (some 79))), some (.inl 7)]) (st' := [.inl 0, .inl 7, .inr (.inr (some 79))]) (w' := (SH, dt104)) rfl ?_
              refine go_callq PM165 PM163 (Q' := _) rfl rfl rfl rfl (sp_X6_lay L xs sio (d + 8) dt104 hI105  7 ⟨by decide, by decide⟩ 0 ⟨by decide, by decide⟩ (by first | exact True.intro | with_reducible assumption | rfl | omega | trivial)) ?_
              rintro _ _ ⟨dt109, rfl, hI110, hF111, h108⟩
              refine ⟨rfl, ?_⟩
              have hF112 : Fr [79, 84] dt dt109 := Fr_tr hF107 hF111 (by decide)
              rcases h108 with ⟨rfl, h108⟩
              obtain ⟨h108_0, h108_1, h108_2, h108_3, h108_4, h108_5, h108_6, h108_7, h108_8, h108_9, h108_10, h108_11, h108_12⟩ := h108
              refine go_toq PM165 (k := 1) (pc' := 9) (L' := [some (.inr (.inr (some 79))), some (.inl 7)]) (st' := []) (w' := (SH, dt109)) rfl ?_
              exact GO.le (ih_loop77 dt109 hI110 hF112 (by omega) (by omega) (by omega) (by omega) (by first | assumption | exact PS_bin (by assumption) (by assumption) (by assumption) (by assumption) (by first | assumption | rfl) (by assumption) (by omega) (by omega) (by omega) | exact PS_un (by assumption) (by assumption) (by assumption) (by first | assumption | rfl) (by assumption) (by fail) (by fail) (by fail) (by fail) | exact PS_eq (by assumption) (by first | rfl | assumption) (by fail) (by fail) | exact PS_eq (by assumption) (by assumption) (by fail) (by fail) | exact PS_unit2 (by assumption) (by assumption) (by fail) (by fail) (by fail)) (by first | assumption | exact AGR_rfl | exact AGR_4 (by assumption) (by assumption) (by first | rfl | assumption) (by fail) | exact AGR_4 (by assumption) (by assumption) (by assumption) (by fail) | exact AGR_e (by assumption) | exact AGR_2 (by assumption) (by first | rfl | assumption) (by fail) | exact AGR_2 (by assumption) (by assumption) (by fail) | exact AGR_tr (by assumption) (by first | assumption | rfl) (by assumption) (by fail) | exact AGR_tr (by assumption) (by first | assumption | rfl) (AGR_tr (by assumption) (by first | assumption | rfl) (by assumption) (by omega)) (by omega) | exact AGR_tr (by assumption) (by first | assumption | rfl) (AGR_2 (by assumption) (by first | assumption | rfl) (by fail)) (by fail) | exact AGR_tr (by assumption) (by first | assumption | rfl) (AGR_tr (by assumption) (by first | assumption | rfl) (AGR_2 (by assumption) (by first | assumption | rfl) (by fail)) (by fail)) (by fail)) (by omega) (by omega) (by omega) (by omega) (by omega) (by omega)) ⟨.inl rfl, .inr ⟨rfl, trivial⟩, trivial⟩
        · skip
          replace c79 := hid c79
          refine go_ifq PM165 (k := 3) (p1 := 69) (p2 := 29) (L' := [some (.inr (.inr (some 79))), none]) (st' := []) (w' := (SH, dt63)) rfl (c_ne (a := dt63 79 14) (b := 145) (by first | exact bnd r78 (by decide) (by decide) | exact ⟨by fail, by fail⟩) ⟨by decide, by decide⟩) (fun c113 => ?_) (fun c113 => ?_)
          · skip
            replace c113 := hid c113
            refine go_retq PM165 (k := 1) (r := some (.inl 1)) (w1 := (SH, dt63)) rfl ?_
            exact ⟨dt63, rfl, hI64, hF65, (Or.inr ⟨rfl, ⟨by first | exact True.intro | with_reducible assumption | exact unhid (by with_reducible assumption) | rfl | fail | trivial, by first | exact True.intro | with_reducible assumption | exact unhid (by with_reducible assumption) | rfl | fail | trivial, by first | exact True.intro | with_reducible assumption | exact unhid (by with_reducible assumption) | rfl | fail | trivial, by exact (InvC_get (by assumption) 79 15 rfl rfl).2, by first | assumption | exact PS_bin (by assumption) (by assumption) (by assumption) (by assumption) (by first | assumption | rfl) (by assumption) (by fail) (by fail) (by fail) | exact PS_un (by assumption) (by assumption) (by assumption) (by first | assumption | rfl) (by assumption) (by fail) (by fail) (by fail) (by fail) | exact PS_eq (by assumption) (by first | rfl | assumption) (by fail) (by fail) | exact PS_eq (by assumption) (by assumption) (by fail) (by fail) | exact PS_unit2 (by assumption) (by assumption) (by fail) (by fail) (by fail), by first | assumption | exact AGR_rfl | exact AGR_4 (by assumption) (by assumption) (by first | rfl | assumption) (by fail) | exact AGR_4 (by assumption) (by assumption) (by assumption) (by fail) | exact AGR_e (by assumption) | exact AGR_2 (by assumption) (by first | rfl | assumption) (by fail) | exact AGR_2 (by assumption) (by assumption) (by fail) | exact AGR_tr (by assumption) (by first | assumption | rfl) (by assumption) (by fail) | exact AGR_tr (by assumption) (by first | assumption | rfl) (AGR_tr (by assumption) (by first | assumption | rfl) (by assumption) (by fail)) (by fail) | exact AGR_tr (by assumption) (by first | assumption | rfl) (AGR_2 (by assumption) (by first | assumption | rfl) (by fail)) (by fail) | exact AGR_tr (by assumption) (by first | assumption | rfl) (AGR_tr (by assumption) (by first | assumption | rfl) (AGR_2 (by assumption) (by first | assumption | rfl) (by fail)) (by fail)) (by fail), by first | exact True.intro | with_reducible assumption | exact unhid (by with_reducible assumption) | rfl | fail | trivial, by first | exact True.intro | with_reducible assumption | exact unhid (by with_reducible assumption) | rfl | fail | trivial, by first | exact True.intro | with_reducible assumption | exact unhid (by with_reducible assumption) | rfl | fail | trivial, by first | exact True.intro | with_reducible assumption | exact unhid (by with_reducible assumption) | rfl | fail | trivial, by first | exact True.intro | with_reducible assumption | exact unhid (by with_reducible assumption) | rfl | fail | trivial⟩⟩)⟩
          · skip
            refine go_ifq PM165 (k := 3) (p1 := 44) (p2 := 39) (L' := [some (.inr (.inr (some 79))), none]) (st' := []) (w' := (SH, dt63)) rfl (c_ne (a := dt63 79 14) (b := 143) (by first | exact bnd r78 (by decide) (by decide) | exact ⟨by fail, by fail⟩) ⟨by decide, by decide⟩) (fun c114 => ?_) (fun c114 => ?_)
            · skip
              replace c114 := hid c114
              refine go_toq PM165 (k := 3) (pc' := 48) (L' := [some (.inr (.inr (some 79))), some (.inl 8)]) (st' := [.inr (.inr (some 79))]) (w' := (SH, dt63)) rfl ?_
              refine go_callq PM165 PM159 (Q' := _) rfl rfl rfl rfl (sp_X6_next0 L xs sio (d + 2) dt63 hI64   (by first | exact True.intro | with_reducible assumption | exact unhid (by with_reducible assumption) | rfl | omega | trivial)) ?_
              rintro _ _ ⟨dt116, rfl, hI117, hF118, h115⟩
              refine ⟨rfl, ?_⟩
              have hF119 : Fr [79, 84] dt dt116 := Fr_tr hF65 hF118 (by decide)
              have E84120 : dt116 84 = dt63 84 := funext (hF118 84 (by decide))
              rcases h115 with ⟨rfl, h115⟩
              obtain ⟨h115_0, h115_1, h115_2, h115_3, h115_4, h115_5, h115_6, h115_7, h115_8⟩ := h115
              refine go_toq PM165 (k := 1) (pc' := 52) (L' := [some (.inr (.inr (some 79))), some (.inl 8)]) (st' := [.inr (.inr (some 79))]) (w' := (SH, dt116)) rfl ?_
              refine go_callq PM165 PM166 (Q' := _) rfl rfl rfl rfl (sp_X6_product L xs sio (d + 0) dt116 hI117   (by first | exact True.intro | with_reducible assumption | exact unhid (by with_reducible assumption) | rfl | fail | trivial) (by first | exact True.intro | with_reducible assumption | exact unhid (by with_reducible assumption) | rfl | omega | trivial)) ?_
              rintro _ _ ⟨dt122, rfl, hI123, hF124, h121⟩
              refine ⟨rfl, ?_⟩
              have hF125 : Fr [79, 84] dt dt122 := Fr_tr hF119 hF124 (by decide)
              rcases h121 with ⟨rfl, h121⟩ | ⟨rfl, h121⟩
              · skip
                obtain ⟨h121_0, h121_1, h121_2, h121_3⟩ := h121
                refine go_retq PM165 (k := 2) (r := some (.inl 0)) (w1 := (SH, dt122)) rfl ?_
                exact ⟨dt122, rfl, hI123, hF125, (Or.inl ⟨rfl, ⟨by first | exact True.intro | with_reducible assumption | exact unhid (by with_reducible assumption) | rfl | omega | trivial, by first | exact True.intro | with_reducible assumption | exact unhid (by with_reducible assumption) | rfl | omega | trivial, by first | exact True.intro | with_reducible assumption | exact unhid (by with_reducible assumption) | rfl | omega | trivial, by first | exact True.intro | with_reducible assumption | exact unhid (by with_reducible assumption) | rfl | omega | trivial⟩⟩)⟩
              · skip
                obtain ⟨h121_0, h121_1, h121_2, h121_3, h121_4, h121_5, h121_6, h121_7, h121_8, h121_9, h121_10⟩ := h121
                refine go_toq PM165 (k := 4) (pc' := 63) (L' := [some (.inr (.inr (some 79))), some (.inl 8)]) (st' := [.inl 0, .inl 8, .inr (.inr (some 79))]) (w' := (SH, dt122)) rfl ?_
                refine go_callq PM165 PM163 (Q' := _) rfl rfl rfl rfl (sp_X6_lay L xs sio (d + 8) dt122 hI123  8 ⟨by decide, by decide⟩ 0 ⟨by decide, by decide⟩ (by first | exact True.intro | with_reducible assumption | exact unhid (by with_reducible assumption) | rfl | omega | trivial)) ?_
                rintro _ _ ⟨dt127, rfl, hI128, hF129, h126⟩
                refine ⟨rfl, ?_⟩
                have hF130 : Fr [79, 84] dt dt127 := Fr_tr hF125 hF129 (by decide)
                rcases h126 with ⟨rfl, h126⟩
                obtain ⟨h126_0, h126_1, h126_2, h126_3, h126_4, h126_5, h126_6, h126_7, h126_8, h126_9, h126_10, h126_11, h126_12⟩ := h126
                refine go_toq PM165 (k := 1) (pc' := 9) (L' := [some (.inr (.inr (some 79))), some (.inl 8)]) (st' := []) (w' := (SH, dt127)) rfl ?_
                exact GO.le (ih_loop77 dt127 hI128 hF130 (by omega) (by omega) (by omega) (by omega) (by first | assumption | exact PS_bin (by assumption) (by assumption) (by assumption) (by assumption) (by first | assumption | rfl) (by assumption) (by omega) (by omega) (by omega) | exact PS_un (by assumption) (by assumption) (by assumption) (by first | assumption | rfl) (by assumption) (by fail) (by fail) (by fail) (by fail) | exact PS_eq (by assumption) (by first | rfl | assumption) (by fail) (by fail) | exact PS_eq (by assumption) (by assumption) (by fail) (by fail) | exact PS_unit2 (by assumption) (by assumption) (by fail) (by fail) (by fail)) (by first | assumption | exact AGR_rfl | exact AGR_4 (by assumption) (by assumption) (by first | rfl | assumption) (by fail) | exact AGR_4 (by assumption) (by assumption) (by assumption) (by fail) | exact AGR_e (by assumption) | exact AGR_2 (by assumption) (by first | rfl | assumption) (by fail) | exact AGR_2 (by assumption) (by assumption) (by fail) | exact AGR_tr (by assumption) (by first | assumption | rfl) (by assumption) (by fail) | exact AGR_tr (by assumption) (by first | assumption | rfl) (AGR_tr (by assumption) (by first | assumption | rfl) (by assumption) (by omega)) (by omega) | exact AGR_tr (by assumption) (by first | assumption | rfl) (AGR_2 (by assumption) (by first | assumption | rfl) (by fail)) (by fail) | exact AGR_tr (by assumption) (by first | assumption | rfl) (AGR_tr (by assumption) (by first | assumption | rfl) (AGR_2 (by assumption) (by first | assumption | rfl) (by fail)) (by fail)) (by fail)) (by omega) (by omega) (by omega) (by omega) (by omega) (by omega)) ⟨.inl rfl, .inr ⟨rfl, trivial⟩, trivial⟩
            · exfalso; omega
    exact GO.le (loop77 _ dt5 hI6 hF8 (by omega) (by omega) (by omega) (by omega) (by first | assumption | exact PS_bin (by assumption) (by assumption) (by assumption) (by assumption) (by first | assumption | rfl) (by assumption) (by fail) (by fail) (by fail) | exact PS_un (by assumption) (by assumption) (by assumption) (by first | assumption | rfl) (by assumption) (by fail) (by fail) (by fail) (by fail) | exact PS_eq (by assumption) (by first | rfl | assumption) (by fail) (by fail) | exact PS_eq (by assumption) (by assumption) (by fail) (by fail) | exact PS_unit2 (by assumption) (by assumption) (by fail) (by fail) (by fail)) (by first | assumption | exact AGR_rfl | exact AGR_4 (by assumption) (by assumption) (by first | rfl | assumption) (by fail) | exact AGR_4 (by assumption) (by assumption) (by assumption) (by fail) | exact AGR_e (by assumption) | exact AGR_2 (by assumption) (by first | rfl | assumption) (by fail) | exact AGR_2 (by assumption) (by assumption) (by fail) | exact AGR_tr (by assumption) (by first | assumption | rfl) (by assumption) (by fail) | exact AGR_tr (by assumption) (by first | assumption | rfl) (AGR_tr (by assumption) (by first | assumption | rfl) (by assumption) (by fail)) (by fail) | exact AGR_tr (by assumption) (by first | assumption | rfl) (AGR_2 (by assumption) (by first | assumption | rfl) (by fail)) (by fail) | exact AGR_tr (by assumption) (by first | assumption | rfl) (AGR_tr (by assumption) (by first | assumption | rfl) (AGR_2 (by assumption) (by first | assumption | rfl) (by fail)) (by fail)) (by fail)) (by omega) (by omega) (by omega) (by omega) (by omega) (Nat.lt_succ_self _)) ⟨.inl rfl, .inl rfl, trivial⟩
set_option maxRecDepth 20000 in
theorem sp_X6_one_8 (L : Nat) (xs : Nat → Int32) (sio : Option Nat) (d : Nat) (dt : Nat → Nat → Int) (hI : InvC dt)   (h_p0 : (¬ dt 79 14 = 0 → dt 79 15 + 1 ≤ dt 79 13) ∧ dt 79 13 ≤ 500) (h_p1 : dt 79 11 ≤ dt 79 15) (h_p2 : dt 79 20 = 8) : GO (am_XX L xs sio) (d + 10) 170 0 [some (.inr (.inr (some 79))), none] [] (SH, dt) (fun r w2 => ∃ dt2 : Nat → Nat → Int, w2 = (SH, dt2) ∧ InvC dt2 ∧ Fr [79, 84] dt dt2 ∧ ((r = some (.inl 0) ∧ (dt2 79 2 = dt 79 2) ∧ (dt2 79 9 = dt 79 9) ∧ (dt2 79 10 = dt 79 10) ∧ (dt2 79 12 = dt 79 12)) ∨ (r = some (.inl 1) ∧ (dt 79 15 + dt2 79 11 ≤ dt2 79 15 + dt 79 11) ∧ (dt 79 11 + 1 ≤ dt2 79 11) ∧ ((¬ dt2 79 14 = 0 → dt2 79 15 + 1 ≤ dt2 79 13) ∧ dt2 79 13 ≤ 500) ∧ (dt2 79 15 ≤ 500) ∧ (PS (dt2 84) (dt 79 11) (dt2 79 11)) ∧ (AGR (dt2 84) (dt 84) (dt 79 11)) ∧ (dt2 79 2 = dt 79 2) ∧ (dt2 79 9 = dt 79 9) ∧ (dt2 79 10 = dt 79 10) ∧ (dt2 79 12 = dt 79 12) ∧ (dt2 79 20 = dt 79 20)))) := by
  have hF : Fr [79, 84] dt dt := Fr_refl
  have r1 : 0 ≤ dt 79 15 ∧ dt 79 15 ≤ 500 := InvC_get hI 79 15 rfl rfl
  have r2 : 0 ≤ dt 79 11 ∧ dt 79 11 ≤ 510 := InvC_get hI 79 11 rfl rfl
  have r3 : 0 ≤ dt 79 10 ∧ dt 79 10 ≤ 24 := InvC_get hI 79 10 rfl rfl
  have r4 : (-2147483648) ≤ dt 79 14 ∧ dt 79 14 ≤ 2147483647 := InvC_get hI 79 14 rfl rfl
  refine go_ifq PM170 (k := 3) (p1 := 44) (p2 := 9) (L' := [some (.inr (.inr (some 79))), none]) (st' := []) (w' := (SH, dt)) rfl (c_ne (a := dt 79 14) (b := 6) (by first | exact bnd r4 (by decide) (by decide) | exact ⟨by fail, by fail⟩) ⟨by decide, by decide⟩) (fun c5 => ?_) (fun c5 => ?_)
  · skip
    replace c5 := hid c5
    refine go_ifq PM170 (k := 3) (p1 := 92) (p2 := 54) (L' := [some (.inr (.inr (some 79))), none]) (st' := []) (w' := (SH, dt)) rfl (c_ne (a := dt 79 14) (b := 140) (by first | exact bnd r4 (by decide) (by decide) | exact ⟨by fail, by fail⟩) ⟨by decide, by decide⟩) (fun c6 => ?_) (fun c6 => ?_)
    · skip
      replace c6 := hid c6
      refine go_toq PM170 (k := 1) (pc' := 93) (L' := [some (.inr (.inr (some 79))), none]) (st' := [.inr (.inr (some 79))]) (w' := (SH, dt)) rfl ?_
      refine go_callq PM170 PM165 (Q' := _) rfl rfl rfl rfl (sp_X6_sumUp L xs sio (d + 0) dt hI   (by first | exact True.intro | with_reducible assumption | exact unhid (by with_reducible assumption) | rfl | fail | trivial) (by first | exact True.intro | with_reducible assumption | exact unhid (by with_reducible assumption) | rfl | fail | trivial)) ?_
      rintro _ _ ⟨dt8, rfl, hI9, hF10, h7⟩
      refine ⟨rfl, ?_⟩
      have hF11 : Fr [79, 84] dt dt8 := Fr_tr hF hF10 (by decide)
      rcases h7 with ⟨rfl, h7⟩ | ⟨rfl, h7⟩
      · skip
        obtain ⟨h7_0, h7_1, h7_2, h7_3⟩ := h7
        refine go_retq PM170 (k := 2) (r := some (.inl 0)) (w1 := (SH, dt8)) rfl ?_
        exact ⟨dt8, rfl, hI9, hF11, (Or.inl ⟨rfl, ⟨by first | exact True.intro | with_reducible assumption | exact unhid (by with_reducible assumption) | rfl | fail | trivial, by first | exact True.intro | with_reducible assumption | exact unhid (by with_reducible assumption) | rfl | fail | trivial, by first | exact True.intro | with_reducible assumption | exact unhid (by with_reducible assumption) | rfl | fail | trivial, by first | exact True.intro | with_reducible assumption | exact unhid (by with_reducible assumption) | rfl | fail | trivial⟩⟩)⟩
      · skip
        obtain ⟨h7_0, h7_1, h7_2, h7_3, h7_4, h7_5, h7_6, h7_7, h7_8, h7_9, h7_10⟩ := h7
        have r12 : (-2147483648) ≤ dt8 79 14 ∧ dt8 79 14 ≤ 2147483647 := InvC_get hI9 79 14 rfl rfl
        refine go_ifq PM170 (k := 4) (p1 := 116) (p2 := 111) (L' := [some (.inr (.inr (some 79))), none]) (st' := []) (w' := (SH, dt8)) rfl (c_ne (a := dt8 79 14) (b := 160) (by first | exact bnd r12 (by decide) (by decide) | exact ⟨by fail, by fail⟩) ⟨by decide, by decide⟩) (fun c13 => ?_) (fun c13 => ?_)
        · skip
          replace c13 := hid c13
          refine go_ifq PM170 (k := 3) (p1 := 131) (p2 := 126) (L' := [some (.inr (.inr (some 79))), none]) (st' := []) (w' := (SH, dt8)) rfl (c_ne (a := dt8 79 14) (b := 161) (by first | exact bnd r12 (by decide) (by decide) | exact ⟨by fail, by fail⟩) ⟨by decide, by decide⟩) (fun c14 => ?_) (fun c14 => ?_)
          · skip
            replace c14 := hid c14
            refine go_ifq PM170 (k := 3) (p1 := 146) (p2 := 141) (L' := [some (.inr (.inr (some 79))), none]) (st' := []) (w' := (SH, dt8)) rfl (c_ne (a := dt8 79 14) (b := 162) (by first | exact bnd r12 (by decide) (by decide) | exact ⟨by fail, by fail⟩) ⟨by decide, by decide⟩) (fun c15 => ?_) (fun c15 => ?_)
            · skip
              replace c15 := hid c15
              refine go_toq PM170 (k := 7) (pc' := 155) (L' := [some (.inr (.inr (some 79))), some (.inl (-1))]) (st' := [.inl 1, .inr (.inr (some 79))]) (w' := (SH, dt8)) rfl ?_
              refine go_callq PM170 PM160 (Q' := _) rfl rfl rfl rfl (sp_X6_bad L xs sio (d + 9) dt8 hI9  1 ⟨by decide, by decide⟩ ) ?_
              rintro _ _ ⟨dt17, rfl, hI18, hF19, h16⟩
              refine ⟨rfl, ?_⟩
              have hF20 : Fr [79, 84] dt dt17 := Fr_tr hF11 hF19 (by decide)
              have E8421 : dt17 84 = dt8 84 := funext (hF19 84 (by decide))
              rcases h16 with ⟨rfl, h16⟩
              obtain ⟨h16_0, h16_1, h16_2, h16_3, h16_4, h16_5⟩ := h16
              refine go_retq PM170 (k := 0) (r := some (.inl 0)) (w1 := (SH, dt17)) rfl ?_
              exact ⟨dt17, rfl, hI18, hF20, (Or.inl ⟨rfl, ⟨by first | exact True.intro | with_reducible assumption | exact unhid (by with_reducible assumption) | rfl | omega | trivial, by first | exact True.intro | with_reducible assumption | exact unhid (by with_reducible assumption) | rfl | omega | trivial, by first | exact True.intro | with_reducible assumption | exact unhid (by with_reducible assumption) | rfl | omega | trivial, by first | exact True.intro | with_reducible assumption | exact unhid (by with_reducible assumption) | rfl | omega | trivial⟩⟩)⟩
            · skip
              refine go_toq PM170 (k := 7) (pc' := 160) (L' := [some (.inr (.inr (some 79))), some (.inl 13)]) (st' := [.inr (.inr (some 79))]) (w' := (SH, dt8)) rfl ?_
              refine go_callq PM170 PM159 (Q' := _) rfl rfl rfl rfl (sp_X6_next0 L xs sio (d + 3) dt8 hI9   (by first | exact True.intro | with_reducible assumption | exact unhid (by with_reducible assumption) | rfl | omega | trivial)) ?_
              rintro _ _ ⟨dt23, rfl, hI24, hF25, h22⟩
              refine ⟨rfl, ?_⟩
              have hF26 : Fr [79, 84] dt dt23 := Fr_tr hF11 hF25 (by decide)
              have E8427 : dt23 84 = dt8 84 := funext (hF25 84 (by decide))
              rcases h22 with ⟨rfl, h22⟩
              obtain ⟨h22_0, h22_1, h22_2, h22_3, h22_4, h22_5, h22_6, h22_7, h22_8⟩ := h22
              refine go_toq PM170 (k := 1) (pc' := 164) (L' := [some (.inr (.inr (some 79))), some (.inl 13)]) (st' := [.inr (.inr (some 79))]) (w' := (SH, dt23)) rfl ?_
              refine go_callq PM170 PM165 (Q' := _) rfl rfl rfl rfl (sp_X6_sumUp L xs sio (d + 0) dt23 hI24   (by first | exact True.intro | with_reducible assumption | exact unhid (by with_reducible assumption) | rfl | fail | trivial) (by first | exact True.intro | with_reducible assumption | exact unhid (by with_reducible assumption) | rfl | omega | trivial)) ?_
              rintro _ _ ⟨dt29, rfl, hI30, hF31, h28⟩
              refine ⟨rfl, ?_⟩
              have hF32 : Fr [79, 84] dt dt29 := Fr_tr hF26 hF31 (by decide)
              rcases h28 with ⟨rfl, h28⟩ | ⟨rfl, h28⟩
              · skip
                obtain ⟨h28_0, h28_1, h28_2, h28_3⟩ := h28
                refine go_retq PM170 (k := 2) (r := some (.inl 0)) (w1 := (SH, dt29)) rfl ?_
                exact ⟨dt29, rfl, hI30, hF32, (Or.inl ⟨rfl, ⟨by first | exact True.intro | with_reducible assumption | exact unhid (by with_reducible assumption) | rfl | omega | trivial, by first | exact True.intro | with_reducible assumption | exact unhid (by with_reducible assumption) | rfl | omega | trivial, by first | exact True.intro | with_reducible assumption | exact unhid (by with_reducible assumption) | rfl | omega | trivial, by first | exact True.intro | with_reducible assumption | exact unhid (by with_reducible assumption) | rfl | omega | trivial⟩⟩)⟩
              · skip
                obtain ⟨h28_0, h28_1, h28_2, h28_3, h28_4, h28_5, h28_6, h28_7, h28_8, h28_9, h28_10⟩ := h28
                refine go_toq PM170 (k := 4) (pc' := 175) (L' := [some (.inr (.inr (some 79))), some (.inl 13)]) (st' := [.inl 0, .inl 13, .inr (.inr (some 79))]) (w' := (SH, dt29)) rfl ?_
                refine go_callq PM170 PM163 (Q' := _) rfl rfl rfl rfl (sp_X6_lay L xs sio (d + 9) dt29 hI30  13 ⟨by decide, by decide⟩ 0 ⟨by decide, by decide⟩ (by first | exact True.intro | with_reducible assumption | exact unhid (by with_reducible assumption) | rfl | omega | trivial)) ?_
                rintro _ _ ⟨dt34, rfl, hI35, hF36, h33⟩
                refine ⟨rfl, ?_⟩
                have hF37 : Fr [79, 84] dt dt34 := Fr_tr hF32 hF36 (by decide)
                rcases h33 with ⟨rfl, h33⟩
                obtain ⟨h33_0, h33_1, h33_2, h33_3, h33_4, h33_5, h33_6, h33_7, h33_8, h33_9, h33_10, h33_11, h33_12⟩ := h33
                refine go_retq PM170 (k := 1) (r := some (.inl 1)) (w1 := (SH, dt34)) rfl ?_
                exact ⟨dt34, rfl, hI35, hF37, (Or.inr ⟨rfl, ⟨by first | exact True.intro | with_reducible assumption | exact unhid (by with_reducible assumption) | rfl | omega | trivial, by first | exact True.intro | with_reducible assumption | exact unhid (by with_reducible assumption) | rfl | omega | trivial, by first | exact True.intro | with_reducible assumption | exact unhid (by with_reducible assumption) | rfl | omega | trivial, by exact (InvC_get (by assumption) 79 15 rfl rfl).2, by first | assumption | exact PS_bin (by assumption) (by assumption) (by assumption) (by assumption) (by first | assumption | rfl) (by assumption) (by omega) (by omega) (by omega) | exact PS_un (by assumption) (by assumption) (by assumption) (by first | assumption | rfl) (by assumption) (by fail) (by fail) (by fail) (by fail) | exact PS_eq (by assumption) (by first | rfl | assumption) (by fail) (by fail) | exact PS_eq (by assumption) (by assumption) (by fail) (by fail) | exact PS_unit2 (by assumption) (by assumption) (by fail) (by fail) (by fail), by first | assumption | exact AGR_rfl | exact AGR_4 (by assumption) (by assumption) (by first | rfl | assumption) (by fail) | exact AGR_4 (by assumption) (by assumption) (by assumption) (by fail) | exact AGR_e (by assumption) | exact AGR_2 (by assumption) (by first | rfl | assumption) (by fail) | exact AGR_2 (by assumption) (by assumption) (by fail) | exact AGR_tr (by assumption) (by first | assumption | rfl) (by assumption) (by fail) | exact AGR_tr (by assumption) (by first | assumption | rfl) (AGR_tr (by assumption) (by first | assumption | rfl) (by assumption) (by omega)) (by omega) | exact AGR_tr (by assumption) (by first | assumption | rfl) (AGR_2 (by assumption) (by first | assumption | rfl) (by fail)) (by fail) | exact AGR_tr (by assumption) (by first | assumption | rfl) (AGR_tr (by assumption) (by first | assumption | rfl) (AGR_2 (by assumption) (by first | assumption | rfl) (by fail)) (by fail)) (by fail), by first | exact True.intro | with_reducible assumption | exact unhid (by with_reducible assumption) | rfl | omega | trivial, by first | exact True.intro | with_reducible assumption | exact unhid (by with_reducible assumption) | rfl | omega | trivial, by first | exact True.intro | with_reducible assumption | exact unhid (by with_reducible assumption) | rfl | omega | trivial, by first | exact True.intro | with_reducible assumption | exact unhid (by with_reducible assumption) | rfl | omega | trivial, by first | exact True.intro | with_reducible assumption | exact unhid (by with_reducible assumption) | rfl | omega | trivial⟩⟩)⟩
          · skip
            refine go_toq PM170 (k := 7) (pc' := 160) (L' := [some (.inr (.inr (some 79))), some (.inl 12)]) (st' := [.inr (.inr (some 79))]) (w' := (SH, dt8)) rfl ?_
            refine go_callq PM170 PM159 (Q' := _) rfl rfl rfl rfl (sp_X6_next0 L xs sio (d + 3) dt8 hI9   (by first | exact True.intro | with_reducible assumption | exact unhid (by with_reducible assumption) | rfl | omega | trivial)) ?_
            rintro _ _ ⟨dt39, rfl, hI40, hF41, h38⟩
            refine ⟨rfl, ?_⟩
            have hF42 : Fr [79, 84] dt dt39 := Fr_tr hF11 hF41 (by decide)
            have E8443 : dt39 84 = dt8 84 := funext (hF41 84 (by decide))
            rcases h38 with ⟨rfl, h38⟩
            obtain ⟨h38_0, h38_1, h38_2, h38_3, h38_4, h38_5, h38_6, h38_7, h38_8⟩ := h38
            refine go_toq PM170 (k := 1) (pc' := 164) (L' := [some (.inr (.inr (some 79))), some (.inl 12)]) (st' := [.inr (.inr (some 79))]) (w' := (SH, dt39)) rfl ?_
            refine go_callq PM170 PM165 (Q' := _) rfl rfl rfl rfl (sp_X6_sumUp L xs sio (d + 0) dt39 hI40   (by first | exact True.intro | with_reducible assumption | exact unhid (by with_reducible assumption) | rfl | fail | trivial) (by first | exact True.intro | with_reducible assumption | exact unhid (by with_reducible assumption) | rfl | omega | trivial)) ?_
            rintro _ _ ⟨dt45, rfl, hI46, hF47, h44⟩
            refine ⟨rfl, ?_⟩
            have hF48 : Fr [79, 84] dt dt45 := Fr_tr hF42 hF47 (by decide)
            rcases h44 with ⟨rfl, h44⟩ | ⟨rfl, h44⟩
            · skip
              obtain ⟨h44_0, h44_1, h44_2, h44_3⟩ := h44
              refine go_retq PM170 (k := 2) (r := some (.inl 0)) (w1 := (SH, dt45)) rfl ?_
              exact ⟨dt45, rfl, hI46, hF48, (Or.inl ⟨rfl, ⟨by first | exact True.intro | with_reducible assumption | exact unhid (by with_reducible assumption) | rfl | omega | trivial, by first | exact True.intro | with_reducible assumption | exact unhid (by with_reducible assumption) | rfl | omega | trivial, by first | exact True.intro | with_reducible assumption | exact unhid (by with_reducible assumption) | rfl | omega | trivial, by first | exact True.intro | with_reducible assumption | exact unhid (by with_reducible assumption) | rfl | omega | trivial⟩⟩)⟩
            · skip
              obtain ⟨h44_0, h44_1, h44_2, h44_3, h44_4, h44_5, h44_6, h44_7, h44_8, h44_9, h44_10⟩ := h44
              refine go_toq PM170 (k := 4) (pc' := 175) (L' := [some (.inr (.inr (some 79))), some (.inl 12)]) (st' := [.inl 0, .inl 12, .inr (.inr (some 79))]) (w' := (SH, dt45)) rfl ?_
              refine go_callq PM170 PM163 (Q' := _) rfl rfl rfl rfl (sp_X6_lay L xs sio (d + 9) dt45 hI46  12 ⟨by decide, by decide⟩ 0 ⟨by decide, by decide⟩ (by first | exact True.intro | with_reducible assumption | exact unhid (by with_reducible assumption) | rfl | omega | trivial)) ?_
              rintro _ _ ⟨dt50, rfl, hI51, hF52, h49⟩
              refine ⟨rfl, ?_⟩
              have hF53 : Fr [79, 84] dt dt50 := Fr_tr hF48 hF52 (by decide)
              rcases h49 with ⟨rfl, h49⟩
              obtain ⟨h49_0, h49_1, h49_2, h49_3, h49_4, h49_5, h49_6, h49_7, h49_8, h49_9, h49_10, h49_11, h49_12⟩ := h49
              refine go_retq PM170 (k := 1) (r := some (.inl 1)) (w1 := (SH, dt50)) rfl ?_
              exact ⟨dt50, rfl, hI51, hF53, (Or.inr ⟨rfl, ⟨by first | exact True.intro | with_reducible assumption | exact unhid (by with_reducible assumption) | rfl | omega | trivial, by first | exact True.intro | with_reducible assumption | exact unhid (by with_reducible assumption) | rfl | omega | trivial, by first | exact True.intro | with_reducible assumption | exact unhid (by with_reducible assumption) | rfl | omega | trivial, by exact (InvC_get (by assumption) 79 15 rfl rfl).2, by first | assumption | exact PS_bin (by assumption) (by assumption) (by assumption) (by assumption) (by first | assumption | rfl) (by assumption) (by omega) (by omega) (by omega) | exact PS_un (by assumption) (by assumption) (by assumption) (by first | assumption | rfl) (by assumption) (by fail) (by fail) (by fail) (by fail) | exact PS_eq (by assumption) (by first | rfl | assumption) (by fail) (by fail) | exact PS_eq (by assumption) (by assumption) (by fail) (by fail) | exact PS_unit2 (by assumption) (by assumption) (by fail) (by fail) (by fail), by first | assumption | exact AGR_rfl | exact AGR_4 (by assumption) (by assumption) (by first | rfl | assumption) (by fail) | exact AGR_4 (by assumption) (by assumption) (by assumption) (by fail) | exact AGR_e (by assumption) | exact AGR_2 (by assumption) (by first | rfl | assumption) (by fail) | exact AGR_2 (by assumption) (by assumption) (by fail) | exact AGR_tr (by assumption) (by first | assumption | rfl) (by assumption) (by fail) | exact AGR_tr (by assumption) (by first | assumption | rfl) (AGR_tr (by assumption) (by first | assumption | rfl) (by assumption) (by omega)) (by omega) | exact AGR_tr (by assumption) (by first | assumption | rfl) (AGR_2 (by assumption) (by first | assumption | rfl) (by fail)) (by fail) | exact AGR_tr (by assumption) (by first | assumption | rfl) (AGR_tr (by assumption) (by first | assumption | rfl) (AGR_2 (by assumption) (by first | assumption | rfl) (by fail)) (by fail)) (by fail), by first | exact True.intro | with_reducible assumption | exact unhid (by with_reducible assumption) | rfl | omega | trivial, by first | exact True.intro | with_reducible assumption | exact unhid (by with_reducible assumption) | rfl | omega | trivial, by first | exact True.intro | with_reducible assumption | exact unhid (by with_reducible assumption) | rfl | omega | trivial, by first | exact True.intro | with_reducible assumption | exact unhid (by with_reducible assumption) | rfl | omega | trivial, by first | exact True.intro | with_reducible assumption | exact unhid (by with_reducible assumption) | rfl | omega | trivial⟩⟩)⟩
        · skip
          refine go_toq PM170 (k := 7) (pc' := 160) (L' := [some (.inr (.inr (some 79))), some (.inl 11)]) (st' := [.inr (.inr (some 79))]) (w' := (SH, dt8)) rfl ?_
          refine go_callq PM170 PM159 (Q' := _) rfl rfl rfl rfl (sp_X6_next0 L xs sio (d + 3) dt8 hI9   (by first | exact True.intro | with_reducible assumption | exact unhid (by with_reducible assumption) | rfl | omega | trivial)) ?_
          rintro _ _ ⟨dt55, rfl, hI56, hF57, h54⟩
          refine ⟨rfl, ?_⟩
          have hF58 : Fr [79, 84] dt dt55 := Fr_tr hF11 hF57 (by decide)
          have E8459 : dt55 84 = dt8 84 := funext (hF57 84 (by decide))
          rcases h54 with ⟨rfl, h54⟩
          obtain ⟨h54_0, h54_1, h54_2, h54_3, h54_4, h54_5, h54_6, h54_7, h54_8⟩ := h54
          refine go_toq PM170 (k := 1) (pc' := 164) (L' := [some (.inr (.inr (some 79))), some (.inl 11)]) (st' := [.inr (.inr (some 79))]) (w' := (SH, dt55)) rfl ?_
          refine go_callq PM170 PM165 (Q' := _) rfl rfl rfl rfl (sp_X6_sumUp L xs sio (d + 0) dt55 hI56   (by first | exact True.intro | with_reducible assumption | exact unhid (by with_reducible assumption) | rfl | fail | trivial) (by first | exact True.intro | with_reducible assumption | exact unhid (by with_reducible assumption) | rfl | omega | trivial)) ?_
          rintro _ _ ⟨dt61, rfl, hI62, hF63, h60⟩
          refine ⟨rfl, ?_⟩
          have hF64 : Fr [79, 84] dt dt61 := Fr_tr hF58 hF63 (by decide)
          rcases h60 with ⟨rfl, h60⟩ | ⟨rfl, h60⟩
          · skip
            obtain ⟨h60_0, h60_1, h60_2, h60_3⟩ := h60
            refine go_retq PM170 (k := 2) (r := some (.inl 0)) (w1 := (SH, dt61)) rfl ?_
            exact ⟨dt61, rfl, hI62, hF64, (Or.inl ⟨rfl, ⟨by first | exact True.intro | with_reducible assumption | exact unhid (by with_reducible assumption) | rfl | omega | trivial, by first | exact True.intro | with_reducible assumption | exact unhid (by with_reducible assumption) | rfl | omega | trivial, by first | exact True.intro | with_reducible assumption | exact unhid (by with_reducible assumption) | rfl | omega | trivial, by first | exact True.intro | with_reducible assumption | exact unhid (by with_reducible assumption) | rfl | omega | trivial⟩⟩)⟩
          · skip
            obtain ⟨h60_0, h60_1, h60_2, h60_3, h60_4, h60_5, h60_6, h60_7, h60_8, h60_9, h60_10⟩ := h60
            refine go_toq PM170 (k := 4) (pc' := 175) (L' := [some (.inr (.inr (some 79))), some (.inl 11)]) (st' := [.inl 0, .inl 11, .inr (.inr (some 79))]) (w' := (SH, dt61)) rfl ?_
            refine go_callq PM170 PM163 (Q' := _) rfl rfl rfl rfl (sp_X6_lay L xs sio (d + 9) dt61 hI62  11 ⟨by decide, by decide⟩ 0 ⟨by decide, by decide⟩ (by first | exact True.intro | with_reducible assumption | exact unhid (by with_reducible assumption) | rfl | omega | trivial)) ?_
            rintro _ _ ⟨dt66, rfl, hI67, hF68, h65⟩
            refine ⟨rfl, ?_⟩
            have hF69 : Fr [79, 84] dt dt66 := Fr_tr hF64 hF68 (by decide)
            rcases h65 with ⟨rfl, h65⟩
            obtain ⟨h65_0, h65_1, h65_2, h65_3, h65_4, h65_5, h65_6, h65_7, h65_8, h65_9, h65_10, h65_11, h65_12⟩ := h65
            refine go_retq PM170 (k := 1) (r := some (.inl 1)) (w1 := (SH, dt66)) rfl ?_
            exact ⟨dt66, rfl, hI67, hF69, (Or.inr ⟨rfl, ⟨by first | exact True.intro | with_reducible assumption | exact unhid (by with_reducible assumption) | rfl | omega | trivial, by first | exact True.intro | with_reducible assumption | exact unhid (by with_reducible assumption) | rfl | omega | trivial, by first | exact True.intro | with_reducible assumption | exact unhid (by with_reducible assumption) | rfl | omega | trivial, by exact (InvC_get (by assumption) 79 15 rfl rfl).2, by first | assumption | exact PS_bin (by assumption) (by assumption) (by assumption) (by assumption) (by first | assumption | rfl) (by assumption) (by omega) (by omega) (by omega) | exact PS_un (by assumption) (by assumption) (by assumption) (by first | assumption | rfl) (by assumption) (by fail) (by fail) (by fail) (by fail) | exact PS_eq (by assumption) (by first | rfl | assumption) (by fail) (by fail) | exact PS_eq (by assumption) (by assumption) (by fail) (by fail) | exact PS_unit2 (by assumption) (by assumption) (by fail) (by fail) (by fail), by first | assumption | exact AGR_rfl | exact AGR_4 (by assumption) (by assumption) (by first | rfl | assumption) (by fail) | exact AGR_4 (by assumption) (by assumption) (by assumption) (by fail) | exact AGR_e (by assumption) | exact AGR_2 (by assumption) (by first | rfl | assumption) (by fail) | exact AGR_2 (by assumption) (by assumption) (by fail) | exact AGR_tr (by assumption) (by first | assumption | rfl) (by assumption) (by fail) | exact AGR_tr (by assumption) (by first | assumption | rfl) (AGR_tr (by assumption) (by first | assumption | rfl) (by assumption) (by omega)) (by omega) | exact AGR_tr (by assumption) (by first | assumption | rfl) (AGR_2 (by assumption) (by first | assumption | rfl) (by fail)) (by fail) | exact AGR_tr (by assumption) (by first | assumption | rfl) (AGR_tr (by assumption) (by first | assumption | rfl) (AGR_2 (by assumption) (by first | assumption | rfl) (by fail)) (by fail)) (by fail), by first | exact True.intro | with_reducible assumption | exact unhid (by with_reducible assumption) | rfl | omega | trivial, by first | exact True.intro | with_reducible assumption | exact unhid (by with_reducible assumption) | rfl | omega | trivial, by first | exact True.intro | with_reducible assumption | exact unhid (by with_reducible assumption) | rfl | omega | trivial, by first | exact True.intro | with_reducible assumption | exact unhid (by with_reducible assumption) | rfl | omega | trivial, by first | exact True.intro | with_reducible assumption | exact unhid (by with_reducible assumption) | rfl | omega | trivial⟩⟩)⟩
    · skip
      refine go_toq PM170 (k := 1) (pc' := 55) (L' := [some (.inr (.inr (some 79))), none]) (st' := [.inr (.inr (some 79))]) (w' := (SH, dt)) rfl ?_
      refine go_callq PM170 PM164 (Q' := _) rfl rfl rfl rfl (sp_X6_opens L xs sio (d + 2) dt hI   (by first | exact True.intro | with_reducible assumption | exact unhid (by with_reducible assumption) | rfl | fail | trivial) (by first | exact True.intro | with_reducible assumption | exact unhid (by with_reducible assumption) | rfl | omega | trivial)) ?_
      rintro _ _ ⟨dt71, rfl, hI72, hF73, h70⟩
      refine ⟨rfl, ?_⟩
      have hF74 : Fr [79, 84] dt dt71 := Fr_tr hF hF73 (by decide)
      have E8475 : dt71 84 = dt 84 := funext (hF73 84 (by decide))
      rcases h70 with ⟨rfl, h70⟩ | ⟨rfl, h70⟩
      · skip
        obtain ⟨h70_0, h70_1, h70_2, h70_3⟩ := h70
        refine go_retq PM170 (k := 2) (r := some (.inl 0)) (w1 := (SH, dt71)) rfl ?_
        exact ⟨dt71, rfl, hI72, hF74, (Or.inl ⟨rfl, ⟨by first | exact True.intro | with_reducible assumption | exact unhid (by with_reducible assumption) | rfl | fail | trivial, by first | exact True.intro | with_reducible assumption | exact unhid (by with_reducible assumption) | rfl | fail | trivial, by first | exact True.intro | with_reducible assumption | exact unhid (by with_reducible assumption) | rfl | fail | trivial, by first | exact True.intro | with_reducible assumption | exact unhid (by with_reducible assumption) | rfl | fail | trivial⟩⟩)⟩
      · skip
        obtain ⟨h70_0, h70_1, h70_2, h70_3, h70_4, h70_5, h70_6, h70_7, h70_8, h70_9⟩ := h70
        exfalso; omega
  · skip
    refine go_toq PM170 (k := 1) (pc' := 10) (L' := [some (.inr (.inr (some 79))), none]) (st' := [.inr (.inr (some 79))]) (w' := (SH, dt)) rfl ?_
    refine go_callq PM170 PM164 (Q' := _) rfl rfl rfl rfl (sp_X6_opens L xs sio (d + 2) dt hI   (by first | exact True.intro | with_reducible assumption | rfl | fail | trivial) (by first | exact True.intro | with_reducible assumption | rfl | omega | trivial)) ?_
    rintro _ _ ⟨dt77, rfl, hI78, hF79, h76⟩
    refine ⟨rfl, ?_⟩
    have hF80 : Fr [79, 84] dt dt77 := Fr_tr hF hF79 (by decide)
    have E8481 : dt77 84 = dt 84 := funext (hF79 84 (by decide))
    rcases h76 with ⟨rfl, h76⟩ | ⟨rfl, h76⟩
    · skip
      obtain ⟨h76_0, h76_1, h76_2, h76_3⟩ := h76
      refine go_retq PM170 (k := 2) (r := some (.inl 0)) (w1 := (SH, dt77)) rfl ?_
      exact ⟨dt77, rfl, hI78, hF80, (Or.inl ⟨rfl, ⟨by first | exact True.intro | with_reducible assumption | rfl | fail | trivial, by first | exact True.intro | with_reducible assumption | rfl | fail | trivial, by first | exact True.intro | with_reducible assumption | rfl | fail | trivial, by first | exact True.intro | with_reducible assumption | rfl | fail | trivial⟩⟩)⟩
    · skip
      obtain ⟨h76_0, h76_1, h76_2, h76_3, h76_4, h76_5, h76_6, h76_7, h76_8, h76_9⟩ := h76
      exfalso; omega
set_option maxRecDepth 20000 in
theorem lv_X6_every (L : Nat) (xs : Nat → Int32) (sio : Option Nat) (d : Nat) (dt : Nat → Nat → Int) (hI : InvC dt) (j : Nat) (IH_X6_one : ∀ (L : Nat) (xs : Nat → Int32) (sio : Option Nat) (d : Nat) (dt : Nat → Nat → Int) (hI : InvC dt) (h_p0 : (¬ dt 79 14 = 0 → dt 79 15 + 1 ≤ dt 79 13) ∧ dt 79 13 ≤ 500) (h_p1 : dt 79 11 ≤ dt 79 15) (h_p2 : dt 79 20 + ((j : Nat) : Int) = 8) (h_p3 : 3 * j ≤ d), GO (am_XX L xs sio) (d + 10) 170 0 [some (.inr (.inr (some 79))), none] [] (SH, dt) (fun r w2 => ∃ dt2 : Nat → Nat → Int, w2 = (SH, dt2) ∧ InvC dt2 ∧ Fr [79, 84] dt dt2 ∧ ((r = some (.inl 0) ∧ (dt2 79 2 = dt 79 2) ∧ (dt2 79 9 = dt 79 9) ∧ (dt2 79 10 = dt 79 10) ∧ (dt2 79 12 = dt 79 12)) ∨ (r = some (.inl 1) ∧ (dt 79 15 + dt2 79 11 ≤ dt2 79 15 + dt 79 11) ∧ (dt 79 11 + 1 ≤ dt2 79 11) ∧ ((¬ dt2 79 14 = 0 → dt2 79 15 + 1 ≤ dt2 79 13) ∧ dt2 79 13 ≤ 500) ∧ (dt2 79 15 ≤ 500) ∧ (PS (dt2 84) (dt 79 11) (dt2 79 11)) ∧ (AGR (dt2 84) (dt 84) (dt 79 11)) ∧ (dt2 79 2 = dt 79 2) ∧ (dt2 79 9 = dt 79 9) ∧ (dt2 79 10 = dt 79 10) ∧ (dt2 79 12 = dt 79 12) ∧ (dt2 79 20 = dt 79 20)))))   (h_p0 : (¬ dt 79 14 = 0 → dt 79 15 + 1 ≤ dt 79 13) ∧ dt 79 13 ≤ 500) (h_p1 : dt 79 11 ≤ dt 79 15) (h_p2 : dt 79 20 + ((j : Nat) : Int) = 8) (h_p3 : 3 * j ≤ d) : GO (am_XX L xs sio) (d + 11) 169 0 [some (.inr (.inr (some 79)))] [] (SH, dt) (fun r w2 => ∃ dt2 : Nat → Nat → Int, w2 = (SH, dt2) ∧ InvC dt2 ∧ Fr [79, 84] dt dt2 ∧ ((r = some (.inl 0) ∧ (dt2 79 2 = dt 79 2) ∧ (dt2 79 9 = dt 79 9) ∧ (dt2 79 10 = dt 79 10) ∧ (dt2 79 12 = dt 79 12)) ∨ (r = some (.inl 1) ∧ (dt 79 15 + dt2 79 11 ≤ dt2 79 15 + dt 79 11) ∧ (dt 79 11 + 1 ≤ dt2 79 11) ∧ ((¬ dt2 79 14 = 0 → dt2 79 15 + 1 ≤ dt2 79 13) ∧ dt2 79 13 ≤ 500) ∧ (dt2 79 15 ≤ 500) ∧ (PS (dt2 84) (dt 79 11) (dt2 79 11)) ∧ (AGR (dt2 84) (dt 84) (dt 79 11)) ∧ (dt2 79 2 = dt 79 2) ∧ (dt2 79 9 = dt 79 9) ∧ (dt2 79 10 = dt 79 10) ∧ (dt2 79 12 = dt 79 12) ∧ (dt2 79 20 = dt 79 20)))) := by
  have hF : Fr [79, 84] dt dt := Fr_refl
  have r1 : 0 ≤ dt 79 20 ∧ dt 79 20 ≤ 8 := InvC_get hI 79 20 rfl rfl
  refine go_toq PM169 (k := 1) (pc' := 1) (L' := [some (.inr (.inr (some 79)))]) (st' := [.inr (.inr (some 79))]) (w' := (SH, dt)) rfl ?_
  refine go_callq PM169 PM170 (Q' := _) rfl rfl rfl rfl (IH_X6_one L xs sio (d + 0) dt hI   (by first | exact True.intro | with_reducible assumption | rfl | fail | trivial) (by first | exact True.intro | with_reducible assumption | rfl | fail | trivial) (by first | exact True.intro | with_reducible assumption | rfl | fail | trivial) (by first | exact True.intro | with_reducible assumption | rfl | omega | trivial)) ?_
  rintro _ _ ⟨dt3, rfl, hI4, hF5, h2⟩
  refine ⟨rfl, ?_⟩
  have hF6 : Fr [79, 84] dt dt3 := Fr_tr hF hF5 (by decide)
  rcases h2 with ⟨rfl, h2⟩ | ⟨rfl, h2⟩
  · skip
    obtain ⟨h2_0, h2_1, h2_2, h2_3⟩ := h2
    refine go_retq PM169 (k := 2) (r := some (.inl 0)) (w1 := (SH, dt3)) rfl ?_
    exact ⟨dt3, rfl, hI4, hF6, (Or.inl ⟨rfl, ⟨by first | exact True.intro | with_reducible assumption | rfl | fail | trivial, by first | exact True.intro | with_reducible assumption | rfl | fail | trivial, by first | exact True.intro | with_reducible assumption | rfl | fail | trivial, by first | exact True.intro | with_reducible assumption | rfl | fail | trivial⟩⟩)⟩
  · skip
    obtain ⟨h2_0, h2_1, h2_2, h2_3, h2_4, h2_5, h2_6, h2_7, h2_8, h2_9, h2_10⟩ := h2
    refine go_toq PM169 (k := 1) (pc' := 9) (L' := [some (.inr (.inr (some 79)))]) (st' := []) (w' := (SH, dt3)) rfl ?_
    have loop40 : ∀ (k_ : Nat) (dt26 : Nat → Nat → Int) (hI27 : InvC dt26) (hF28 : Fr [79, 84] dt dt26) (i29 : dt 79 15 + dt26 79 11 ≤ dt26 79 15 + dt 79 11) (i30 : dt 79 11 + 1 ≤ dt26 79 11) (i31 : (¬ dt26 79 14 = 0 → dt26 79 15 + 1 ≤ dt26 79 13) ∧ dt26 79 13 ≤ 500) (i32 : dt26 79 15 ≤ 500) (i33 : PS (dt26 84) (dt 79 11) (dt26 79 11)) (i34 : AGR (dt26 84) (dt 84) (dt 79 11)) (i35 : dt26 79 2 = dt 79 2) (i36 : dt26 79 9 = dt 79 9) (i37 : dt26 79 10 = dt 79 10) (i38 : dt26 79 12 = dt 79 12) (i39 : dt26 79 20 = dt 79 20), (502 - dt26 79 15).toNat < k_ → GO (am_XX L xs sio) (d + 11) 169 9 [some (.inr (.inr (some 79)))] [] (SH, dt26) (fun r w2 => ∃ dt2 : Nat → Nat → Int, w2 = (SH, dt2) ∧ InvC dt2 ∧ Fr [79, 84] dt dt2 ∧ ((r = some (.inl 0) ∧ (dt2 79 2 = dt 79 2) ∧ (dt2 79 9 = dt 79 9) ∧ (dt2 79 10 = dt 79 10) ∧ (dt2 79 12 = dt 79 12)) ∨ (r = some (.inl 1) ∧ (dt 79 15 + dt2 79 11 ≤ dt2 79 15 + dt 79 11) ∧ (dt 79 11 + 1 ≤ dt2 79 11) ∧ ((¬ dt2 79 14 = 0 → dt2 79 15 + 1 ≤ dt2 79 13) ∧ dt2 79 13 ≤ 500) ∧ (dt2 79 15 ≤ 500) ∧ (PS (dt2 84) (dt 79 11) (dt2 79 11)) ∧ (AGR (dt2 84) (dt 84) (dt 79 11)) ∧ (dt2 79 2 = dt 79 2) ∧ (dt2 79 9 = dt 79 9) ∧ (dt2 79 10 = dt 79 10) ∧ (dt2 79 12 = dt 79 12) ∧ (dt2 79 20 = dt 79 20)))) := by
      intro k_
      induction k_ with
      | zero => intro dt26 hI27 hF28 i29 i30 i31 i32 i33 i34 i35 i36 i37 i38 i39 hm; exact absurd hm (Nat.not_lt_zero _)
      | succ k_ ih_loop40 =>
        intro dt26 hI27 hF28 i29 i30 i31 i32 i33 i34 i35 i36 i37 i38 i39 hm
        have r41 : (-2147483648) ≤ dt26 79 14 ∧ dt26 79 14 ≤ 2147483647 := InvC_get hI27 79 14 rfl rfl
        refine go_ifq PM169 (k := 3) (p1 := 40) (p2 := 17) (L' := [some (.inr (.inr (some 79)))]) (st' := []) (w' := (SH, dt26)) rfl (c_ne (a := dt26 79 14) (b := 5) (by first | exact bnd r41 (by decide) (by decide) | exact ⟨by fail, by fail⟩) ⟨by decide, by decide⟩) (fun c42 => ?_) (fun c42 => ?_)
        · skip
          replace c42 := hid c42
          refine go_retq PM169 (k := 1) (r := some (.inl 1)) (w1 := (SH, dt26)) rfl ?_
          exact ⟨dt26, rfl, hI27, hF28, (Or.inr ⟨rfl, ⟨by first | exact True.intro | with_reducible assumption | exact unhid (by with_reducible assumption) | rfl | fail | trivial, by first | exact True.intro | with_reducible assumption | exact unhid (by with_reducible assumption) | rfl | fail | trivial, by first | exact True.intro | with_reducible assumption | exact unhid (by with_reducible assumption) | rfl | fail | trivial, by exact (InvC_get (by assumption) 79 15 rfl rfl).2, by first | assumption | exact PS_bin (by assumption) (by assumption) (by assumption) (by assumption) (by first | assumption | rfl) (by assumption) (by fail) (by fail) (by fail) | exact PS_un (by assumption) (by assumption) (by assumption) (by first | assumption | rfl) (by assumption) (by fail) (by fail) (by fail) (by fail) | exact PS_eq (by assumption) (by first | rfl | assumption) (by fail) (by fail) | exact PS_eq (by assumption) (by assumption) (by fail) (by fail) | exact PS_unit2 (by assumption) (by assumption) (by fail) (by fail) (by fail), by first | assumption | exact AGR_rfl | exact AGR_4 (by assumption) (by assumption) (by first | rfl | assumption) (by fail) | exact AGR_4 (by assumption) (by assumption) (by assumption) (by fail) | exact AGR_e (by assumption) | exact AGR_2 (by assumption) (by first | rfl | assumption) (by fail) | exact AGR_2 (by assumption) (by assumption) (by fail) | exact AGR_tr (by assumption) (by first | assumption | rfl) (by assumption) (by fail) | exact AGR_tr (by assumption) (by first | assumption | rfl) (AGR_tr (by assumption) (by first | assumption | rfl) (by assumption) (by fail)) (by fail) | exact AGR_tr (by assumption) (by first | assumption | rfl) (AGR_2 (by assumption) (by first | assumption | rfl) (by fail)) (by fail) | exact AGR_tr (by assumption) (by first | assumption | rfl) (AGR_tr (by assumption) (by first | assumption | rfl) (AGR_2 (by assumption) (by first | assumption | rfl) (by fail)) (by fail)) (by fail), by first | exact True.intro | with_reducible assumption | exact unhid (by with_reducible assumption) | rfl | fail | trivial, by first | exact True.intro | with_reducible assumption | exact unhid (by with_reducible assumption) | rfl | fail | trivial, by first | exact True.intro | with_reducible assumption | exact unhid (by with_reducible assumption) | rfl | fail | trivial, by first | exact True.intro | with_reducible assumption | exact unhid (by with_reducible assumption) | rfl | fail | trivial, by first | exact True.intro | with_reducible assumption | exact unhid (by with_reducible assumption) | rfl | fail | trivial⟩⟩)⟩
        · skip
          refine go_toq PM169 (k := 1) (pc' := 18) (L' := [some (.inr (.inr (some 79)))]) (st' := [.inr (.inr (some 79))]) (w' := (SH, dt26)) rfl ?_
          refine go_callq PM169 PM159 (Q' := _) rfl rfl rfl rfl (sp_X6_next0 L xs sio (d + 4) dt26 hI27   (by first | exact True.intro | with_reducible assumption | rfl | omega | trivial)) ?_
          rintro _ _ ⟨dt44, rfl, hI45, hF46, h43⟩
          refine ⟨rfl, ?_⟩
          have hF47 : Fr [79, 84] dt dt44 := Fr_tr hF28 hF46 (by decide)
          have E8448 : dt44 84 = dt26 84 := funext (hF46 84 (by decide))
          rcases h43 with ⟨rfl, h43⟩
          obtain ⟨h43_0, h43_1, h43_2, h43_3, h43_4, h43_5, h43_6, h43_7, h43_8⟩ := h43
          refine go_toq PM169 (k := 1) (pc' := 22) (L' := [some (.inr (.inr (some 79)))]) (st' := [.inr (.inr (some 79))]) (w' := (SH, dt44)) rfl ?_
          refine go_callq PM169 PM170 (Q' := _) rfl rfl rfl rfl (IH_X6_one L xs sio (d + 0) dt44 hI45   (by first | exact True.intro | with_reducible assumption | rfl | fail | trivial) (by first | exact True.intro | with_reducible assumption | rfl | omega | trivial) (by first | exact True.intro | with_reducible assumption | rfl | omega | trivial) (by first | exact True.intro | with_reducible assumption | rfl | omega | trivial)) ?_
          rintro _ _ ⟨dt50, rfl, hI51, hF52, h49⟩
          refine ⟨rfl, ?_⟩
          have hF53 : Fr [79, 84] dt dt50 := Fr_tr hF47 hF52 (by decide)
          rcases h49 with ⟨rfl, h49⟩ | ⟨rfl, h49⟩
          · skip
            obtain ⟨h49_0, h49_1, h49_2, h49_3⟩ := h49
            refine go_retq PM169 (k := 2) (r := some (.inl 0)) (w1 := (SH, dt50)) rfl ?_
            exact ⟨dt50, rfl, hI51, hF53, (Or.inl ⟨rfl, ⟨by first | exact True.intro | with_reducible assumption | rfl | omega | trivial, by first | exact True.intro | with_reducible assumption | rfl | omega | trivial, by first | exact True.intro | with_reducible assumption | rfl | omega | trivial, by first | exact True.intro | with_reducible assumption | rfl | omega | trivial⟩⟩)⟩
          · skip
            obtain ⟨h49_0, h49_1, h49_2, h49_3, h49_4, h49_5, h49_6, h49_7, h49_8, h49_9, h49_10⟩ := h49
            refine go_toq PM169 (k := 4) (pc' := 34) (L' := [some (.inr (.inr (some 79)))]) (st' := [.inl 0, .inl 15, .inr (.inr (some 79))]) (w' := (SH, dt50)) rfl ?_
            refine go_callq PM169 PM163 (Q' := _) rfl rfl rfl rfl (sp_X6_lay L xs sio (d + 10) dt50 hI51  15 ⟨by decide, by decide⟩ 0 ⟨by decide, by decide⟩ (by first | exact True.intro | with_reducible assumption | rfl | omega | trivial)) ?_
            rintro _ _ ⟨dt55, rfl, hI56, hF57, h54⟩
            refine ⟨rfl, ?_⟩
            have hF58 : Fr [79, 84] dt dt55 := Fr_tr hF53 hF57 (by decide)
            rcases h54 with ⟨rfl, h54⟩
            obtain ⟨h54_0, h54_1, h54_2, h54_3, h54_4, h54_5, h54_6, h54_7, h54_8, h54_9, h54_10, h54_11, h54_12⟩ := h54
            refine go_toq PM169 (k := 1) (pc' := 9) (L' := [some (.inr (.inr (some 79)))]) (st' := []) (w' := (SH, dt55)) rfl ?_
            exact GO.le (ih_loop40 dt55 hI56 hF58 (by omega) (by omega) (by omega) (by omega) (by first | assumption | exact PS_bin (by assumption) (by assumption) (by assumption) (by assumption) (by first | assumption | rfl) (by assumption) (by omega) (by omega) (by omega) | exact PS_un (by assumption) (by assumption) (by assumption) (by first | assumption | rfl) (by assumption) (by fail) (by fail) (by fail) (by fail) | exact PS_eq (by assumption) (by first | rfl | assumption) (by fail) (by fail) | exact PS_eq (by assumption) (by assumption) (by fail) (by fail) | exact PS_unit2 (by assumption) (by assumption) (by fail) (by fail) (by fail)) (by first | assumption | exact AGR_rfl | exact AGR_4 (by assumption) (by assumption) (by first | rfl | assumption) (by fail) | exact AGR_4 (by assumption) (by assumption) (by assumption) (by fail) | exact AGR_e (by assumption) | exact AGR_2 (by assumption) (by first | rfl | assumption) (by fail) | exact AGR_2 (by assumption) (by assumption) (by fail) | exact AGR_tr (by assumption) (by first | assumption | rfl) (by assumption) (by fail) | exact AGR_tr (by assumption) (by first | assumption | rfl) (AGR_tr (by assumption) (by first | assumption | rfl) (by assumption) (by omega)) (by omega) | exact AGR_tr (by assumption) (by first | assumption | rfl) (AGR_2 (by assumption) (by first | assumption | rfl) (by fail)) (by fail) | exact AGR_tr (by assumption) (by first | assumption | rfl) (AGR_tr (by assumption) (by first | assumption | rfl) (AGR_2 (by assumption) (by first | assumption | rfl) (by fail)) (by fail)) (by fail)) (by omega) (by omega) (by omega) (by omega) (by omega) (by omega)) ⟨.inl rfl, trivial⟩
    exact GO.le (loop40 _ dt3 hI4 hF6 (by omega) (by omega) (by omega) (by omega) (by first | assumption | exact PS_bin (by assumption) (by assumption) (by assumption) (by assumption) (by first | assumption | rfl) (by assumption) (by fail) (by fail) (by fail) | exact PS_un (by assumption) (by assumption) (by assumption) (by first | assumption | rfl) (by assumption) (by fail) (by fail) (by fail) (by fail) | exact PS_eq (by assumption) (by first | rfl | assumption) (by fail) (by fail) | exact PS_eq (by assumption) (by assumption) (by fail) (by fail) | exact PS_unit2 (by assumption) (by assumption) (by fail) (by fail) (by fail)) (by first | assumption | exact AGR_rfl | exact AGR_4 (by assumption) (by assumption) (by first | rfl | assumption) (by fail) | exact AGR_4 (by assumption) (by assumption) (by assumption) (by fail) | exact AGR_e (by assumption) | exact AGR_2 (by assumption) (by first | rfl | assumption) (by fail) | exact AGR_2 (by assumption) (by assumption) (by fail) | exact AGR_tr (by assumption) (by first | assumption | rfl) (by assumption) (by fail) | exact AGR_tr (by assumption) (by first | assumption | rfl) (AGR_tr (by assumption) (by first | assumption | rfl) (by assumption) (by fail)) (by fail) | exact AGR_tr (by assumption) (by first | assumption | rfl) (AGR_2 (by assumption) (by first | assumption | rfl) (by fail)) (by fail) | exact AGR_tr (by assumption) (by first | assumption | rfl) (AGR_tr (by assumption) (by first | assumption | rfl) (AGR_2 (by assumption) (by first | assumption | rfl) (by fail)) (by fail)) (by fail)) (by omega) (by omega) (by omega) (by omega) (by omega) (Nat.lt_succ_self _)) ⟨.inl rfl, trivial⟩
set_option maxRecDepth 20000 in
theorem lv_X6_any (L : Nat) (xs : Nat → Int32) (sio : Option Nat) (d : Nat) (dt : Nat → Nat → Int) (hI : InvC dt) (j : Nat) (IH_X6_every : ∀ (L : Nat) (xs : Nat → Int32) (sio : Option Nat) (d : Nat) (dt : Nat → Nat → Int) (hI : InvC dt) (h_p0 : (¬ dt 79 14 = 0 → dt 79 15 + 1 ≤ dt 79 13) ∧ dt 79 13 ≤ 500) (h_p1 : dt 79 11 ≤ dt 79 15) (h_p2 : dt 79 20 + ((j : Nat) : Int) = 8) (h_p3 : 3 * j ≤ d), GO (am_XX L xs sio) (d + 11) 169 0 [some (.inr (.inr (some 79)))] [] (SH, dt) (fun r w2 => ∃ dt2 : Nat → Nat → Int, w2 = (SH, dt2) ∧ InvC dt2 ∧ Fr [79, 84] dt dt2 ∧ ((r = some (.inl 0) ∧ (dt2 79 2 = dt 79 2) ∧ (dt2 79 9 = dt 79 9) ∧ (dt2 79 10 = dt 79 10) ∧ (dt2 79 12 = dt 79 12)) ∨ (r = some (.inl 1) ∧ (dt 79 15 + dt2 79 11 ≤ dt2 79 15 + dt 79 11) ∧ (dt 79 11 + 1 ≤ dt2 79 11) ∧ ((¬ dt2 79 14 = 0 → dt2 79 15 + 1 ≤ dt2 79 13) ∧ dt2 79 13 ≤ 500) ∧ (dt2 79 15 ≤ 500) ∧ (PS (dt2 84) (dt 79 11) (dt2 79 11)) ∧ (AGR (dt2 84) (dt 84) (dt 79 11)) ∧ (dt2 79 2 = dt 79 2) ∧ (dt2 79 9 = dt 79 9) ∧ (dt2 79 10 = dt 79 10) ∧ (dt2 79 12 = dt 79 12) ∧ (dt2 79 20 = dt 79 20)))))   (h_p0 : (¬ dt 79 14 = 0 → dt 79 15 + 1 ≤ dt 79 13) ∧ dt 79 13 ≤ 500) (h_p1 : dt 79 11 ≤ dt 79 15) (h_p2 : dt 79 20 + ((j : Nat) : Int) = 8) (h_p3 : 3 * j ≤ d) : GO (am_XX L xs sio) (d + 12) 168 0 [some (.inr (.inr (some 79)))] [] (SH, dt) (fun r w2 => ∃ dt2 : Nat → Nat → Int, w2 = (SH, dt2) ∧ InvC dt2 ∧ Fr [79, 84] dt dt2 ∧ ((r = some (.inl 0) ∧ (dt2 79 2 = dt 79 2) ∧ (dt2 79 9 = dt 79 9) ∧ (dt2 79 10 = dt 79 10) ∧ (dt2 79 12 = dt 79 12)) ∨ (r = some (.inl 1) ∧ (dt 79 15 + dt2 79 11 ≤ dt2 79 15 + dt 79 11) ∧ (dt 79 11 + 1 ≤ dt2 79 11) ∧ ((¬ dt2 79 14 = 0 → dt2 79 15 + 1 ≤ dt2 79 13) ∧ dt2 79 13 ≤ 500) ∧ (dt2 79 15 ≤ 500) ∧ (PS (dt2 84) (dt 79 11) (dt2 79 11)) ∧ (AGR (dt2 84) (dt 84) (dt 79 11)) ∧ (dt2 79 2 = dt 79 2) ∧ (dt2 79 9 = dt 79 9) ∧ (dt2 79 10 = dt 79 10) ∧ (dt2 79 12 = dt 79 12) ∧ (dt2 79 20 = dt 79 20)))) := by
  have hF : Fr [79, 84] dt dt := Fr_refl
  have r1 : 0 ≤ dt 79 20 ∧ dt 79 20 ≤ 8 := InvC_get hI 79 20 rfl rfl
  refine go_toq PM168 (k := 1) (pc' := 1) (L' := [some (.inr (.inr (some 79)))]) (st' := [.inr (.inr (some 79))]) (w' := (SH, dt)) rfl ?_
  refine go_callq PM168 PM169 (Q' := _) rfl rfl rfl rfl (IH_X6_every L xs sio (d + 0) dt hI   (by first | exact True.intro | with_reducible assumption | rfl | fail | trivial) (by first | exact True.intro | with_reducible assumption | rfl | fail | trivial) (by first | exact True.intro | with_reducible assumption | rfl | fail | trivial) (by first | exact True.intro | with_reducible assumption | rfl | omega | trivial)) ?_
  rintro _ _ ⟨dt3, rfl, hI4, hF5, h2⟩
  refine ⟨rfl, ?_⟩
  have hF6 : Fr [79, 84] dt dt3 := Fr_tr hF hF5 (by decide)
  rcases h2 with ⟨rfl, h2⟩ | ⟨rfl, h2⟩
  · skip
    obtain ⟨h2_0, h2_1, h2_2, h2_3⟩ := h2
    refine go_retq PM168 (k := 2) (r := some (.inl 0)) (w1 := (SH, dt3)) rfl ?_
    exact ⟨dt3, rfl, hI4, hF6, (Or.inl ⟨rfl, ⟨by first | exact True.intro | with_reducible assumption | rfl | fail | trivial, by first | exact True.intro | with_reducible assumption | rfl | fail | trivial, by first | exact True.intro | with_reducible assumption | rfl | fail | trivial, by first | exact True.intro | with_reducible assumption | rfl | fail | trivial⟩⟩)⟩
  · skip
    obtain ⟨h2_0, h2_1, h2_2, h2_3, h2_4, h2_5, h2_6, h2_7, h2_8, h2_9, h2_10⟩ := h2
    refine go_toq PM168 (k := 1) (pc' := 9) (L' := [some (.inr (.inr (some 79)))]) (st' := []) (w' := (SH, dt3)) rfl ?_
    have loop40 : ∀ (k_ : Nat) (dt26 : Nat → Nat → Int) (hI27 : InvC dt26) (hF28 : Fr [79, 84] dt dt26) (i29 : dt 79 15 + dt26 79 11 ≤ dt26 79 15 + dt 79 11) (i30 : dt 79 11 + 1 ≤ dt26 79 11) (i31 : (¬ dt26 79 14 = 0 → dt26 79 15 + 1 ≤ dt26 79 13) ∧ dt26 79 13 ≤ 500) (i32 : dt26 79 15 ≤ 500) (i33 : PS (dt26 84) (dt 79 11) (dt26 79 11)) (i34 : AGR (dt26 84) (dt 84) (dt 79 11)) (i35 : dt26 79 2 = dt 79 2) (i36 : dt26 79 9 = dt 79 9) (i37 : dt26 79 10 = dt 79 10) (i38 : dt26 79 12 = dt 79 12) (i39 : dt26 79 20 = dt 79 20), (502 - dt26 79 15).toNat < k_ → GO (am_XX L xs sio) (d + 12) 168 9 [some (.inr (.inr (some 79)))] [] (SH, dt26) (fun r w2 => ∃ dt2 : Nat → Nat → Int, w2 = (SH, dt2) ∧ InvC dt2 ∧ Fr [79, 84] dt dt2 ∧ ((r = some (.inl 0) ∧ (dt2 79 2 = dt 79 2) ∧ (dt2 79 9 = dt 79 9) ∧ (dt2 79 10 = dt 79 10) ∧ (dt2 79 12 = dt 79 12)) ∨ (r = some (.inl 1) ∧ (dt 79 15 + dt2 79 11 ≤ dt2 79 15 + dt 79 11) ∧ (dt 79 11 + 1 ≤ dt2 79 11) ∧ ((¬ dt2 79 14 = 0 → dt2 79 15 + 1 ≤ dt2 79 13) ∧ dt2 79 13 ≤ 500) ∧ (dt2 79 15 ≤ 500) ∧ (PS (dt2 84) (dt 79 11) (dt2 79 11)) ∧ (AGR (dt2 84) (dt 84) (dt 79 11)) ∧ (dt2 79 2 = dt 79 2) ∧ (dt2 79 9 = dt 79 9) ∧ (dt2 79 10 = dt 79 10) ∧ (dt2 79 12 = dt 79 12) ∧ (dt2 79 20 = dt 79 20)))) := by
      intro k_
      induction k_ with
      | zero => intro dt26 hI27 hF28 i29 i30 i31 i32 i33 i34 i35 i36 i37 i38 i39 hm; exact absurd hm (Nat.not_lt_zero _)
      | succ k_ ih_loop40 =>
        intro dt26 hI27 hF28 i29 i30 i31 i32 i33 i34 i35 i36 i37 i38 i39 hm
        have r41 : (-2147483648) ≤ dt26 79 14 ∧ dt26 79 14 ≤ 2147483647 := InvC_get hI27 79 14 rfl rfl
        refine go_ifq PM168 (k := 3) (p1 := 40) (p2 := 17) (L' := [some (.inr (.inr (some 79)))]) (st' := []) (w' := (SH, dt26)) rfl (c_ne (a := dt26 79 14) (b := 4) (by first | exact bnd r41 (by decide) (by decide) | exact ⟨by fail, by fail⟩) ⟨by decide, by decide⟩) (fun c42 => ?_) (fun c42 => ?_)
        · skip
          replace c42 := hid c42
          refine go_retq PM168 (k := 1) (r := some (.inl 1)) (w1 := (SH, dt26)) rfl ?_
          exact ⟨dt26, rfl, hI27, hF28, (Or.inr ⟨rfl, ⟨by first | exact True.intro | with_reducible assumption | exact unhid (by with_reducible assumption) | rfl | fail | trivial, by first | exact True.intro | with_reducible assumption | exact unhid (by with_reducible assumption) | rfl | fail | trivial, by first | exact True.intro | with_reducible assumption | exact unhid (by with_reducible assumption) | rfl | fail | trivial, by exact (InvC_get (by assumption) 79 15 rfl rfl).2, by first | assumption | exact PS_bin (by assumption) (by assumption) (by assumption) (by assumption) (by first | assumption | rfl) (by assumption) (by fail) (by fail) (by fail) | exact PS_un (by assumption) (by assumption) (by assumption) (by first | assumption | rfl) (by assumption) (by fail) (by fail) (by fail) (by fail) | exact PS_eq (by assumption) (by first | rfl | assumption) (by fail) (by fail) | exact PS_eq (by assumption) (by assumption) (by fail) (by fail) | exact PS_unit2 (by assumption) (by assumption) (by fail) (by fail) (by fail), by first | assumption | exact AGR_rfl | exact AGR_4 (by assumption) (by assumption) (by first | rfl | assumption) (by fail) | exact AGR_4 (by assumption) (by assumption) (by assumption) (by fail) | exact AGR_e (by assumption) | exact AGR_2 (by assumption) (by first | rfl | assumption) (by fail) | exact AGR_2 (by assumption) (by assumption) (by fail) | exact AGR_tr (by assumption) (by first | assumption | rfl) (by assumption) (by fail) | exact AGR_tr (by assumption) (by first | assumption | rfl) (AGR_tr (by assumption) (by first | assumption | rfl) (by assumption) (by fail)) (by fail) | exact AGR_tr (by assumption) (by first | assumption | rfl) (AGR_2 (by assumption) (by first | assumption | rfl) (by fail)) (by fail) | exact AGR_tr (by assumption) (by first | assumption | rfl) (AGR_tr (by assumption) (by first | assumption | rfl) (AGR_2 (by assumption) (by first | assumption | rfl) (by fail)) (by fail)) (by fail), by first | exact True.intro | with_reducible assumption | exact unhid (by with_reducible assumption) | rfl | fail | trivial, by first | exact True.intro | with_reducible assumption | exact unhid (by with_reducible assumption) | rfl | fail | trivial, by first | exact True.intro | with_reducible assumption | exact unhid (by with_reducible assumption) | rfl | fail | trivial, by first | exact True.intro | with_reducible assumption | exact unhid (by with_reducible assumption) | rfl | fail | trivial, by first | exact True.intro | with_reducible assumption | exact unhid (by with_reducible assumption) | rfl | fail | trivial⟩⟩)⟩
        · skip
          refine go_toq PM168 (k := 1) (pc' := 18) (L' := [some (.inr (.inr (some 79)))]) (st' := [.inr (.inr (some 79))]) (w' := (SH, dt26)) rfl ?_
          refine go_callq PM168 PM159 (Q' := _) rfl rfl rfl rfl (sp_X6_next0 L xs sio (d + 5) dt26 hI27   (by first | exact True.intro | with_reducible assumption | rfl | omega | trivial)) ?_
          rintro _ _ ⟨dt44, rfl, hI45, hF46, h43⟩
          refine ⟨rfl, ?_⟩
          have hF47 : Fr [79, 84] dt dt44 := Fr_tr hF28 hF46 (by decide)
          have E8448 : dt44 84 = dt26 84 := funext (hF46 84 (by decide))
          rcases h43 with ⟨rfl, h43⟩
          obtain ⟨h43_0, h43_1, h43_2, h43_3, h43_4, h43_5, h43_6, h43_7, h43_8⟩ := h43
          refine go_toq PM168 (k := 1) (pc' := 22) (L' := [some (.inr (.inr (some 79)))]) (st' := [.inr (.inr (some 79))]) (w' := (SH, dt44)) rfl ?_
          refine go_callq PM168 PM169 (Q' := _) rfl rfl rfl rfl (IH_X6_every L xs sio (d + 0) dt44 hI45   (by first | exact True.intro | with_reducible assumption | rfl | fail | trivial) (by first | exact True.intro | with_reducible assumption | rfl | omega | trivial) (by first | exact True.intro | with_reducible assumption | rfl | omega | trivial) (by first | exact True.intro | with_reducible assumption | rfl | omega | trivial)) ?_
          rintro _ _ ⟨dt50, rfl, hI51, hF52, h49⟩
          refine ⟨rfl, ?_⟩
          have hF53 : Fr [79, 84] dt dt50 := Fr_tr hF47 hF52 (by decide)
          rcases h49 with ⟨rfl, h49⟩ | ⟨rfl, h49⟩
          · skip
            obtain ⟨h49_0, h49_1, h49_2, h49_3⟩ := h49
            refine go_retq PM168 (k := 2) (r := some (.inl 0)) (w1 := (SH, dt50)) rfl ?_
            exact ⟨dt50, rfl, hI51, hF53, (Or.inl ⟨rfl, ⟨by first | exact True.intro | with_reducible assumption | rfl | omega | trivial, by first | exact True.intro | with_reducible assumption | rfl | omega | trivial, by first | exact True.intro | with_reducible assumption | rfl | omega | trivial, by first | exact True.intro | with_reducible assumption | rfl | omega | trivial⟩⟩)⟩
          · skip
            obtain ⟨h49_0, h49_1, h49_2, h49_3, h49_4, h49_5, h49_6, h49_7, h49_8, h49_9, h49_10⟩ := h49
            refine go_toq PM168 (k := 4) (pc' := 34) (L' := [some (.inr (.inr (some 79)))]) (st' := [.inl 0, .inl 16, .inr (.inr (some 79))]) (w' := (SH, dt50)) rfl ?_
            refine go_callq PM168 PM163 (Q' := _) rfl rfl rfl rfl (sp_X6_lay L xs sio (d + 11) dt50 hI51  16 ⟨by decide, by decide⟩ 0 ⟨by decide, by decide⟩ (by first | exact True.intro | with_reducible assumption | rfl | omega | trivial)) ?_
            rintro _ _ ⟨dt55, rfl, hI56, hF57, h54⟩
            refine ⟨rfl, ?_⟩
            have hF58 : Fr [79, 84] dt dt55 := Fr_tr hF53 hF57 (by decide)
            rcases h54 with ⟨rfl, h54⟩
            obtain ⟨h54_0, h54_1, h54_2, h54_3, h54_4, h54_5, h54_6, h54_7, h54_8, h54_9, h54_10, h54_11, h54_12⟩ := h54
            refine go_toq PM168 (k := 1) (pc' := 9) (L' := [some (.inr (.inr (some 79)))]) (st' := []) (w' := (SH, dt55)) rfl ?_
            exact GO.le (ih_loop40 dt55 hI56 hF58 (by omega) (by omega) (by omega) (by omega) (by first | assumption | exact PS_bin (by assumption) (by assumption) (by assumption) (by assumption) (by first | assumption | rfl) (by assumption) (by omega) (by omega) (by omega) | exact PS_un (by assumption) (by assumption) (by assumption) (by first | assumption | rfl) (by assumption) (by fail) (by fail) (by fail) (by fail) | exact PS_eq (by assumption) (by first | rfl | assumption) (by fail) (by fail) | exact PS_eq (by assumption) (by assumption) (by fail) (by fail) | exact PS_unit2 (by assumption) (by assumption) (by fail) (by fail) (by fail)) (by first | assumption | exact AGR_rfl | exact AGR_4 (by assumption) (by assumption) (by first | rfl | assumption) (by fail) | exact AGR_4 (by assumption) (by assumption) (by assumption) (by fail) | exact AGR_e (by assumption) | exact AGR_2 (by assumption) (by first | rfl | assumption) (by fail) | exact AGR_2 (by assumption) (by assumption) (by fail) | exact AGR_tr (by assumption) (by first | assumption | rfl) (by assumption) (by fail) | exact AGR_tr (by assumption) (by first | assumption | rfl) (AGR_tr (by assumption) (by first | assumption | rfl) (by assumption) (by omega)) (by omega) | exact AGR_tr (by assumption) (by first | assumption | rfl) (AGR_2 (by assumption) (by first | assumption | rfl) (by fail)) (by fail) | exact AGR_tr (by assumption) (by first | assumption | rfl) (AGR_tr (by assumption) (by first | assumption | rfl) (AGR_2 (by assumption) (by first | assumption | rfl) (by fail)) (by fail)) (by fail)) (by omega) (by omega) (by omega) (by omega) (by omega) (by omega)) ⟨.inl rfl, trivial⟩
    exact GO.le (loop40 _ dt3 hI4 hF6 (by omega) (by omega) (by omega) (by omega) (by first | assumption | exact PS_bin (by assumption) (by assumption) (by assumption) (by assumption) (by first | assumption | rfl) (by assumption) (by fail) (by fail) (by fail) | exact PS_un (by assumption) (by assumption) (by assumption) (by first | assumption | rfl) (by assumption) (by fail) (by fail) (by fail) (by fail) | exact PS_eq (by assumption) (by first | rfl | assumption) (by fail) (by fail) | exact PS_eq (by assumption) (by assumption) (by fail) (by fail) | exact PS_unit2 (by assumption) (by assumption) (by fail) (by fail) (by fail)) (by first | assumption | exact AGR_rfl | exact AGR_4 (by assumption) (by assumption) (by first | rfl | assumption) (by fail) | exact AGR_4 (by assumption) (by assumption) (by assumption) (by fail) | exact AGR_e (by assumption) | exact AGR_2 (by assumption) (by first | rfl | assumption) (by fail) | exact AGR_2 (by assumption) (by assumption) (by fail) | exact AGR_tr (by assumption) (by first | assumption | rfl) (by assumption) (by fail) | exact AGR_tr (by assumption) (by first | assumption | rfl) (AGR_tr (by assumption) (by first | assumption | rfl) (by assumption) (by fail)) (by fail) | exact AGR_tr (by assumption) (by first | assumption | rfl) (AGR_2 (by assumption) (by first | assumption | rfl) (by fail)) (by fail) | exact AGR_tr (by assumption) (by first | assumption | rfl) (AGR_tr (by assumption) (by first | assumption | rfl) (AGR_2 (by assumption) (by first | assumption | rfl) (by fail)) (by fail)) (by fail)) (by omega) (by omega) (by omega) (by omega) (by omega) (Nat.lt_succ_self _)) ⟨.inl rfl, trivial⟩
set_option maxRecDepth 20000 in
theorem lv_X6_one (L : Nat) (xs : Nat → Int32) (sio : Option Nat) (d : Nat) (dt : Nat → Nat → Int) (hI : InvC dt) (j : Nat) (IH_X6_one : ∀ (L : Nat) (xs : Nat → Int32) (sio : Option Nat) (d : Nat) (dt : Nat → Nat → Int) (hI : InvC dt) (h_p0 : (¬ dt 79 14 = 0 → dt 79 15 + 1 ≤ dt 79 13) ∧ dt 79 13 ≤ 500) (h_p1 : dt 79 11 ≤ dt 79 15) (h_p2 : dt 79 20 + ((j : Nat) : Int) = 8) (h_p3 : 3 * j ≤ d), GO (am_XX L xs sio) (d + 10) 170 0 [some (.inr (.inr (some 79))), none] [] (SH, dt) (fun r w2 => ∃ dt2 : Nat → Nat → Int, w2 = (SH, dt2) ∧ InvC dt2 ∧ Fr [79, 84] dt dt2 ∧ ((r = some (.inl 0) ∧ (dt2 79 2 = dt 79 2) ∧ (dt2 79 9 = dt 79 9) ∧ (dt2 79 10 = dt 79 10) ∧ (dt2 79 12 = dt 79 12)) ∨ (r = some (.inl 1) ∧ (dt 79 15 + dt2 79 11 ≤ dt2 79 15 + dt 79 11) ∧ (dt 79 11 + 1 ≤ dt2 79 11) ∧ ((¬ dt2 79 14 = 0 → dt2 79 15 + 1 ≤ dt2 79 13) ∧ dt2 79 13 ≤ 500) ∧ (dt2 79 15 ≤ 500) ∧ (PS (dt2 84) (dt 79 11) (dt2 79 11)) ∧ (AGR (dt2 84) (dt 84) (dt 79 11)) ∧ (dt2 79 2 = dt 79 2) ∧ (dt2 79 9 = dt 79 9) ∧ (dt2 79 10 = dt 79 10) ∧ (dt2 79 12 = dt 79 12) ∧ (dt2 79 20 = dt 79 20))))) (IH_X6_every : ∀ (L : Nat) (xs : Nat → Int32) (sio : Option Nat) (d : Nat) (dt : Nat → Nat → Int) (hI : InvC dt) (h_p0 : (¬ dt 79 14 = 0 → dt 79 15 + 1 ≤ dt 79 13) ∧ dt 79 13 ≤ 500) (h_p1 : dt 79 11 ≤ dt 79 15) (h_p2 : dt 79 20 + ((j : Nat) : Int) = 8) (h_p3 : 3 * j ≤ d), GO (am_XX L xs sio) (d + 11) 169 0 [some (.inr (.inr (some 79)))] [] (SH, dt) (fun r w2 => ∃ dt2 : Nat → Nat → Int, w2 = (SH, dt2) ∧ InvC dt2 ∧ Fr [79, 84] dt dt2 ∧ ((r = some (.inl 0) ∧ (dt2 79 2 = dt 79 2) ∧ (dt2 79 9 = dt 79 9) ∧ (dt2 79 10 = dt 79 10) ∧ (dt2 79 12 = dt 79 12)) ∨ (r = some (.inl 1) ∧ (dt 79 15 + dt2 79 11 ≤ dt2 79 15 + dt 79 11) ∧ (dt 79 11 + 1 ≤ dt2 79 11) ∧ ((¬ dt2 79 14 = 0 → dt2 79 15 + 1 ≤ dt2 79 13) ∧ dt2 79 13 ≤ 500) ∧ (dt2 79 15 ≤ 500) ∧ (PS (dt2 84) (dt 79 11) (dt2 79 11)) ∧ (AGR (dt2 84) (dt 84) (dt 79 11)) ∧ (dt2 79 2 = dt 79 2) ∧ (dt2 79 9 = dt 79 9) ∧ (dt2 79 10 = dt 79 10) ∧ (dt2 79 12 = dt 79 12) ∧ (dt2 79 20 = dt 79 20))))) (IH_X6_any : ∀ (L : Nat) (xs : Nat → Int32) (sio : Option Nat) (d : Nat) (dt : Nat → Nat → Int) (hI : InvC dt) (h_p0 : (¬ dt 79 14 = 0 → dt 79 15 + 1 ≤ dt 79 13) ∧ dt 79 13 ≤ 500) (h_p1 : dt 79 11 ≤ dt 79 15) (h_p2 : dt 79 20 + ((j : Nat) : Int) = 8) (h_p3 : 3 * j ≤ d), GO (am_XX L xs sio) (d + 12) 168 0 [some (.inr (.inr (some 79)))] [] (SH, dt) (fun r w2 => ∃ dt2 : Nat → Nat → Int, w2 = (SH, dt2) ∧ InvC dt2 ∧ Fr [79, 84] dt dt2 ∧ ((r = some (.inl 0) ∧ (dt2 79 2 = dt 79 2) ∧ (dt2 79 9 = dt 79 9) ∧ (dt2 79 10 = dt 79 10) ∧ (dt2 79 12 = dt 79 12)) ∨ (r = some (.inl 1) ∧ (dt 79 15 + dt2 79 11 ≤ dt2 79 15 + dt 79 11) ∧ (dt 79 11 + 1 ≤ dt2 79 11) ∧ ((¬ dt2 79 14 = 0 → dt2 79 15 + 1 ≤ dt2 79 13) ∧ dt2 79 13 ≤ 500) ∧ (dt2 79 15 ≤ 500) ∧ (PS (dt2 84) (dt 79 11) (dt2 79 11)) ∧ (AGR (dt2 84) (dt 84) (dt 79 11)) ∧ (dt2 79 2 = dt 79 2) ∧ (dt2 79 9 = dt 79 9) ∧ (dt2 79 10 = dt 79 10) ∧ (dt2 79 12 = dt 79 12) ∧ (dt2 79 20 = dt 79 20)))))   (h_p0 : (¬ dt 79 14 = 0 → dt 79 15 + 1 ≤ dt 79 13) ∧ dt 79 13 ≤ 500) (h_p1 : dt 79 11 ≤ dt 79 15) (h_p2 : dt 79 20 + (((j + 1) : Nat) : Int) = 8) (h_p3 : 3 * j ≤ d) : GO (am_XX L xs sio) (d + 13) 170 0 [some (.inr (.inr (some 79))), none] [] (SH, dt) (fun r w2 => ∃ dt2 : Nat → Nat → Int, w2 = (SH, dt2) ∧ InvC dt2 ∧ Fr [79, 84] dt dt2 ∧ ((r = some (.inl 0) ∧ (dt2 79 2 = dt 79 2) ∧ (dt2 79 9 = dt 79 9) ∧ (dt2 79 10 = dt 79 10) ∧ (dt2 79 12 = dt 79 12)) ∨ (r = some (.inl 1) ∧ (dt 79 15 + dt2 79 11 ≤ dt2 79 15 + dt 79 11) ∧ (dt 79 11 + 1 ≤ dt2 79 11) ∧ ((¬ dt2 79 14 = 0 → dt2 79 15 + 1 ≤ dt2 79 13) ∧ dt2 79 13 ≤ 500) ∧ (dt2 79 15 ≤ 500) ∧ (PS (dt2 84) (dt 79 11) (dt2 79 11)) ∧ (AGR (dt2 84) (dt 84) (dt 79 11)) ∧ (dt2 79 2 = dt 79 2) ∧ (dt2 79 9 = dt 79 9) ∧ (dt2 79 10 = dt 79 10) ∧ (dt2 79 12 = dt 79 12) ∧ (dt2 79 20 = dt 79 20)))) := by
  have hF : Fr [79, 84] dt dt := Fr_refl
  have r1 : 0 ≤ dt 79 20 ∧ dt 79 20 ≤ 8 := InvC_get hI 79 20 rfl rfl
  have r2 : (-2147483648) ≤ dt 79 14 ∧ dt 79 14 ≤ 2147483647 := InvC_get hI 79 14 rfl rfl
  refine go_ifq PM170 (k := 3) (p1 := 44) (p2 := 9) (L' := [some (.inr (.inr (some 79))), none]) (st' := []) (w' := (SH, dt)) rfl (c_ne (a := dt 79 14) (b := 6) (by first | exact bnd r2 (by decide) (by decide) | exact ⟨by fail, by fail⟩) ⟨by decide, by decide⟩) (fun c3 => ?_) (fun c3 => ?_)
  · skip
    replace c3 := hid c3
    refine go_ifq PM170 (k := 3) (p1 := 92) (p2 := 54) (L' := [some (.inr (.inr (some 79))), none]) (st' := []) (w' := (SH, dt)) rfl (c_ne (a := dt 79 14) (b := 140) (by first | exact bnd r2 (by decide) (by decide) | exact ⟨by fail, by fail⟩) ⟨by decide, by decide⟩) (fun c4 => ?_) (fun c4 => ?_)
    · skip
      replace c4 := hid c4
      refine go_toq PM170 (k := 1) (pc' := 93) (L' := [some (.inr (.inr (some 79))), none]) (st' := [.inr (.inr (some 79))]) (w' := (SH, dt)) rfl ?_
      refine go_callq PM170 PM165 (Q' := _) rfl rfl rfl rfl (sp_X6_sumUp L xs sio (d + 3) dt hI   (by first | exact True.intro | with_reducible assumption | exact unhid (by with_reducible assumption) | rfl | fail | trivial) (by first | exact True.intro | with_reducible assumption | exact unhid (by with_reducible assumption) | rfl | fail | trivial)) ?_
      rintro _ _ ⟨dt6, rfl, hI7, hF8, h5⟩
      refine ⟨rfl, ?_⟩
      have hF9 : Fr [79, 84] dt dt6 := Fr_tr hF hF8 (by decide)
      rcases h5 with ⟨rfl, h5⟩ | ⟨rfl, h5⟩
      · skip
        obtain ⟨h5_0, h5_1, h5_2, h5_3⟩ := h5
        refine go_retq PM170 (k := 2) (r := some (.inl 0)) (w1 := (SH, dt6)) rfl ?_
        exact ⟨dt6, rfl, hI7, hF9, (Or.inl ⟨rfl, ⟨by first | exact True.intro | with_reducible assumption | exact unhid (by with_reducible assumption) | rfl | fail | trivial, by first | exact True.intro | with_reducible assumption | exact unhid (by with_reducible assumption) | rfl | fail | trivial, by first | exact True.intro | with_reducible assumption | exact unhid (by with_reducible assumption) | rfl | fail | trivial, by first | exact True.intro | with_reducible assumption | exact unhid (by with_reducible assumption) | rfl | fail | trivial⟩⟩)⟩
      · skip
        obtain ⟨h5_0, h5_1, h5_2, h5_3, h5_4, h5_5, h5_6, h5_7, h5_8, h5_9, h5_10⟩ := h5
        have r10 : (-2147483648) ≤ dt6 79 14 ∧ dt6 79 14 ≤ 2147483647 := InvC_get hI7 79 14 rfl rfl
        refine go_ifq PM170 (k := 4) (p1 := 116) (p2 := 111) (L' := [some (.inr (.inr (some 79))), none]) (st' := []) (w' := (SH, dt6)) rfl (c_ne (a := dt6 79 14) (b := 160) (by first | exact bnd r10 (by decide) (by decide) | exact ⟨by fail, by fail⟩) ⟨by decide, by decide⟩) (fun c11 => ?_) (fun c11 => ?_)
        · skip
          replace c11 := hid c11
          refine go_ifq PM170 (k := 3) (p1 := 131) (p2 := 126) (L' := [some (.inr (.inr (some 79))), none]) (st' := []) (w' := (SH, dt6)) rfl (c_ne (a := dt6 79 14) (b := 161) (by first | exact bnd r10 (by decide) (by decide) | exact ⟨by fail, by fail⟩) ⟨by decide, by decide⟩) (fun c12 => ?_) (fun c12 => ?_)
          · skip
            replace c12 := hid c12
            refine go_ifq PM170 (k := 3) (p1 := 146) (p2 := 141) (L' := [some (.inr (.inr (some 79))), none]) (st' := []) (w' := (SH, dt6)) rfl (c_ne (a := dt6 79 14) (b := 162) (by first | exact bnd r10 (by decide) (by decide) | exact ⟨by fail, by fail⟩) ⟨by decide, by decide⟩) (fun c13 => ?_) (fun c13 => ?_)
            · skip
              replace c13 := hid c13
              refine go_toq PM170 (k := 7) (pc' := 155) (L' := [some (.inr (.inr (some 79))), some (.inl (-1))]) (st' := [.inl 1, .inr (.inr (some 79))]) (w' := (SH, dt6)) rfl ?_
              refine go_callq PM170 PM160 (Q' := _) rfl rfl rfl rfl (sp_X6_bad L xs sio (d + 12) dt6 hI7  1 ⟨by decide, by decide⟩ ) ?_
              rintro _ _ ⟨dt15, rfl, hI16, hF17, h14⟩
              refine ⟨rfl, ?_⟩
              have hF18 : Fr [79, 84] dt dt15 := Fr_tr hF9 hF17 (by decide)
              have E8419 : dt15 84 = dt6 84 := funext (hF17 84 (by decide))
              rcases h14 with ⟨rfl, h14⟩
              obtain ⟨h14_0, h14_1, h14_2, h14_3, h14_4, h14_5⟩ := h14
              refine go_retq PM170 (k := 0) (r := some (.inl 0)) (w1 := (SH, dt15)) rfl ?_
              exact ⟨dt15, rfl, hI16, hF18, (Or.inl ⟨rfl, ⟨by first | exact True.intro | with_reducible assumption | exact unhid (by with_reducible assumption) | rfl | omega | trivial, by first | exact True.intro | with_reducible assumption | exact unhid (by with_reducible assumption) | rfl | omega | trivial, by first | exact True.intro | with_reducible assumption | exact unhid (by with_reducible assumption) | rfl | omega | trivial, by first | exact True.intro | with_reducible assumption | exact unhid (by with_reducible assumption) | rfl | omega | trivial⟩⟩)⟩
            · skip
              refine go_toq PM170 (k := 7) (pc' := 160) (L' := [some (.inr (.inr (some 79))), some (.inl 13)]) (st' := [.inr (.inr (some 79))]) (w' := (SH, dt6)) rfl ?_
              refine go_callq PM170 PM159 (Q' := _) rfl rfl rfl rfl (sp_X6_next0 L xs sio (d + 6) dt6 hI7   (by first | exact True.intro | with_reducible assumption | exact unhid (by with_reducible assumption) | rfl | omega | trivial)) ?_
              rintro _ _ ⟨dt21, rfl, hI22, hF23, h20⟩
              refine ⟨rfl, ?_⟩
              have hF24 : Fr [79, 84] dt dt21 := Fr_tr hF9 hF23 (by decide)
              have E8425 : dt21 84 = dt6 84 := funext (hF23 84 (by decide))
              rcases h20 with ⟨rfl, h20⟩
              obtain ⟨h20_0, h20_1, h20_2, h20_3, h20_4, h20_5, h20_6, h20_7, h20_8⟩ := h20
              refine go_toq PM170 (k := 1) (pc' := 164) (L' := [some (.inr (.inr (some 79))), some (.inl 13)]) (st' := [.inr (.inr (some 79))]) (w' := (SH, dt21)) rfl ?_
              refine go_callq PM170 PM165 (Q' := _) rfl rfl rfl rfl (sp_X6_sumUp L xs sio (d + 3) dt21 hI22   (by first | exact True.intro | with_reducible assumption | exact unhid (by with_reducible assumption) | rfl | fail | trivial) (by first | exact True.intro | with_reducible assumption | exact unhid (by with_reducible assumption) | rfl | omega | trivial)) ?_
              rintro _ _ ⟨dt27, rfl, hI28, hF29, h26⟩
              refine ⟨rfl, ?_⟩
              have hF30 : Fr [79, 84] dt dt27 := Fr_tr hF24 hF29 (by decide)
              rcases h26 with ⟨rfl, h26⟩ | ⟨rfl, h26⟩
              · skip
                obtain ⟨h26_0, h26_1, h26_2, h26_3⟩ := h26
                refine go_retq PM170 (k := 2) (r := some (.inl 0)) (w1 := (SH, dt27)) rfl ?_
                exact ⟨dt27, rfl, hI28, hF30, (Or.inl ⟨rfl, ⟨by first | exact True.intro | with_reducible assumption | exact unhid (by with_reducible assumption) | rfl | omega | trivial, by first | exact True.intro | with_reducible assumption | exact unhid (by with_reducible assumption) | rfl | omega | trivial, by first | exact True.intro | with_reducible assumption | exact unhid (by with_reducible assumption) | rfl | omega | trivial, by first | exact True.intro | with_reducible assumption | exact unhid (by with_reducible assumption) | rfl | omega | trivial⟩⟩)⟩
              · skip
                obtain ⟨h26_0, h26_1, h26_2, h26_3, h26_4, h26_5, h26_6, h26_7, h26_8, h26_9, h26_10⟩ := h26
                refine go_toq PM170 (k := 4) (pc' := 175) (L' := [some (.inr (.inr (some 79))), some (.inl 13)]) (st' := [.inl 0, .inl 13, .inr (.inr (some 79))]) (w' := (SH, dt27)) rfl ?_
                refine go_callq PM170 PM163 (Q' := _) rfl rfl rfl rfl (sp_X6_lay L xs sio (d + 12) dt27 hI28  13 ⟨by decide, by decide⟩ 0 ⟨by decide, by decide⟩ (by first | exact True.intro | with_reducible assumption | exact unhid (by with_reducible assumption) | rfl | omega | trivial)) ?_
                rintro _ _ ⟨dt32, rfl, hI33, hF34, h31⟩
                refine ⟨rfl, ?_⟩
                have hF35 : Fr [79, 84] dt dt32 := Fr_tr hF30 hF34 (by decide)
                rcases h31 with ⟨rfl, h31⟩
                obtain ⟨h31_0, h31_1, h31_2, h31_3, h31_4, h31_5, h31_6, h31_7, h31_8, h31_9, h31_10, h31_11, h31_12⟩ := h31
                refine go_retq PM170 (k := 1) (r := some (.inl 1)) (w1 := (SH, dt32)) rfl ?_
                exact ⟨dt32, rfl, hI33, hF35, (Or.inr ⟨rfl, ⟨by first | exact True.intro | with_reducible assumption | exact unhid (by with_reducible assumption) | rfl | omega | trivial, by first | exact True.intro | with_reducible assumption | exact unhid (by with_reducible assumption) | rfl | omega | trivial, by first | exact True.intro | with_reducible assumption | exact unhid (by with_reducible assumption) | rfl | omega | trivial, by exact (InvC_get (by assumption) 79 15 rfl rfl).2, by first | assumption | exact PS_bin (by assumption) (by assumption) (by assumption) (by assumption) (by first | assumption | rfl) (by assumption) (by omega) (by omega) (by omega) | exact PS_un (by assumption) (by assumption) (by assumption) (by first | assumption | rfl) (by assumption) (by fail) (by fail) (by fail) (by fail) | exact PS_eq (by assumption) (by first | rfl | assumption) (by fail) (by fail) | exact PS_eq (by assumption) (by assumption) (by fail) (by fail) | exact PS_unit2 (by assumption) (by assumption) (by fail) (by fail) (by fail), by first | assumption | exact AGR_rfl | exact AGR_4 (by assumption) (by assumption) (by first | rfl | assumption) (by fail) | exact AGR_4 (by assumption) (by assumption) (by assumption) (by fail) | exact AGR_e (by assumption) | exact AGR_2 (by assumption) (by first | rfl | assumption) (by fail) | exact AGR_2 (by assumption) (by assumption) (by fail) | exact AGR_tr (by assumption) (by first | assumption | rfl) (by assumption) (by fail) | exact AGR_tr (by assumption) (by first | assumption | rfl) (AGR_tr (by assumption) (by first | assumption | rfl) (by assumption) (by omega)) (by omega) | exact AGR_tr (by assumption) (by first | assumption | rfl) (AGR_2 (by assumption) (by first | assumption | rfl) (by fail)) (by fail) | exact AGR_tr (by assumption) (by first | assumption | rfl) (AGR_tr (by assumption) (by first | assumption | rfl) (AGR_2 (by assumption) (by first | assumption | rfl) (by fail)) (by fail)) (by fail), by first | exact True.intro | with_reducible assumption | exact unhid (by with_reducible assumption) | rfl | omega | trivial, by first | exact True.intro | with_reducible assumption | exact unhid (by with_reducible assumption) | rfl | omega | trivial, by first | exact True.intro | with_reducible assumption | exact unhid (by with_reducible assumption) | rfl | omega | trivial, by first | exact True.intro | with_reducible assumption | exact unhid (by with_reducible assumption) | rfl | omega | trivial, by first | exact True.intro | with_reducible assumption | exact unhid (by with_reducible assumption) | rfl | omega | trivial⟩⟩)⟩
          · skip
            refine go_toq PM170 (k := 7) (pc' := 160) (L' := [some (.inr (.inr (some 79))), some (.inl 12)]) (st' := [.inr (.inr (some 79))]) (w' := (SH, dt6)) rfl ?_
            refine go_callq PM170 PM159 (Q' := _) rfl rfl rfl rfl (sp_X6_next0 L xs sio (d + 6) dt6 hI7   (by first | exact True.intro | with_reducible assumption | exact unhid (by with_reducible assumption) | rfl | omega | trivial)) ?_
            rintro _ _ ⟨dt37, rfl, hI38, hF39, h36⟩
            refine ⟨rfl, ?_⟩
            have hF40 : Fr [79, 84] dt dt37 := Fr_tr hF9 hF39 (by decide)
            have E8441 : dt37 84 = dt6 84 := funext (hF39 84 (by decide))
            rcases h36 with ⟨rfl, h36⟩
            obtain ⟨h36_0, h36_1, h36_2, h36_3, h36_4, h36_5, h36_6, h36_7, h36_8⟩ := h36
            refine go_toq PM170 (k := 1) (pc' := 164) (L' := [some (.inr (.inr (some 79))), some (.inl 12)]) (st' := [.inr (.inr (some 79))]) (w' := (SH, dt37)) rfl ?_
            refine go_callq PM170 PM165 (Q' := _) rfl rfl rfl rfl (sp_X6_sumUp L xs sio (d + 3) dt37 hI38   (by first | exact True.intro | with_reducible assumption | exact unhid (by with_reducible assumption) | rfl | fail | trivial) (by first | exact True.intro | with_reducible assumption | exact unhid (by with_reducible assumption) | rfl | omega | trivial)) ?_
            rintro _ _ ⟨dt43, rfl, hI44, hF45, h42⟩
            refine ⟨rfl, ?_⟩
            have hF46 : Fr [79, 84] dt dt43 := Fr_tr hF40 hF45 (by decide)
            rcases h42 with ⟨rfl, h42⟩ | ⟨rfl, h42⟩
            · skip
              obtain ⟨h42_0, h42_1, h42_2, h42_3⟩ := h42
              refine go_retq PM170 (k := 2) (r := some (.inl 0)) (w1 := (SH, dt43)) rfl ?_
              exact ⟨dt43, rfl, hI44, hF46, (Or.inl ⟨rfl, ⟨by first | exact True.intro | with_reducible assumption | exact unhid (by with_reducible assumption) | rfl | omega | trivial, by first | exact True.intro | with_reducible assumption | exact unhid (by with_reducible assumption) | rfl | omega | trivial, by first | exact True.intro | with_reducible assumption | exact unhid (by with_reducible assumption) | rfl | omega | trivial, by first | exact True.intro | with_reducible assumption | exact unhid (by with_reducible assumption) | rfl | omega | trivial⟩⟩)⟩
            · skip
              obtain ⟨h42_0, h42_1, h42_2, h42_3, h42_4, h42_5, h42_6, h42_7, h42_8, h42_9, h42_10⟩ := h42
              refine go_toq PM170 (k := 4) (pc' := 175) (L' := [some (.inr (.inr (some 79))), some (.inl 12)]) (st' := [.inl 0, .inl 12, .inr (.inr (some 79))]) (w' := (SH, dt43)) rfl ?_
              refine go_callq PM170 PM163 (Q' := _) rfl rfl rfl rfl (sp_X6_lay L xs sio (d + 12) dt43 hI44  12 ⟨by decide, by decide⟩ 0 ⟨by decide, by decide⟩ (by first | exact True.intro | with_reducible assumption | exact unhid (by with_reducible assumption) | rfl | omega | trivial)) ?_
              rintro _ _ ⟨dt48, rfl, hI49, hF50, h47⟩
              refine ⟨rfl, ?_⟩
              have hF51 : Fr [79, 84] dt dt48 := Fr_tr hF46 hF50 (by decide)
              rcases h47 with ⟨rfl, h47⟩
              obtain ⟨h47_0, h47_1, h47_2, h47_3, h47_4, h47_5, h47_6, h47_7, h47_8, h47_9, h47_10, h47_11, h47_12⟩ := h47
              refine go_retq PM170 (k := 1) (r := some (.inl 1)) (w1 := (SH, dt48)) rfl ?_
              exact ⟨dt48, rfl, hI49, hF51, (Or.inr ⟨rfl, ⟨by first | exact True.intro | with_reducible assumption | exact unhid (by with_reducible assumption) | rfl | omega | trivial, by first | exact True.intro | with_reducible assumption | exact unhid (by with_reducible assumption) | rfl | omega | trivial, by first | exact True.intro | with_reducible assumption | exact unhid (by with_reducible assumption) | rfl | omega | trivial, by exact (InvC_get (by assumption) 79 15 rfl rfl).2, by first | assumption | exact PS_bin (by assumption) (by assumption) (by assumption) (by assumption) (by first | assumption | rfl) (by assumption) (by omega) (by omega) (by omega) | exact PS_un (by assumption) (by assumption) (by assumption) (by first | assumption | rfl) (by assumption) (by fail) (by fail) (by fail) (by fail) | exact PS_eq (by assumption) (by first | rfl | assumption) (by fail) (by fail) | exact PS_eq (by assumption) (by assumption) (by fail) (by fail) | exact PS_unit2 (by assumption) (by assumption) (by fail) (by fail) (by fail), by first | assumption | exact AGR_rfl | exact AGR_4 (by assumption) (by assumption) (by first | rfl | assumption) (by fail) | exact AGR_4 (by assumption) (by assumption) (by assumption) (by fail) | exact AGR_e (by assumption) | exact AGR_2 (by assumption) (by first | rfl | assumption) (by fail) | exact AGR_2 (by assumption) (by assumption) (by fail) | exact AGR_tr (by assumption) (by first | assumption | rfl) (by assumption) (by fail) | exact AGR_tr (by assumption) (by first | assumption | rfl) (AGR_tr (by assumption) (by first | assumption | rfl) (by assumption) (by omega)) (by omega) | exact AGR_tr (by assumption) (by first | assumption | rfl) (AGR_2 (by assumption) (by first | assumption | rfl) (by fail)) (by fail) | exact AGR_tr (by assumption) (by first | assumption | rfl) (AGR_tr (by assumption) (by first | assumption | rfl) (AGR_2 (by assumption) (by first | assumption | rfl) (by fail)) (by fail)) (by fail), by first | exact True.intro | with_reducible assumption | exact unhid (by with_reducible assumption) | rfl | omega | trivial, by first | exact True.intro | with_reducible assumption | exact unhid (by with_reducible assumption) | rfl | omega | trivial, by first | exact True.intro | with_reducible assumption | exact unhid (by with_reducible assumption) | rfl | omega | trivial, by first | exact True.intro | with_reducible assumption | exact unhid (by with_reducible assumption) | rfl | omega | trivial, by first | exact True.intro | with_reducible assumption | exact unhid (by with_reducible assumption) | rfl | omega | trivial⟩⟩)⟩
        · skip
          refine go_toq PM170 (k := 7) (pc' := 160) (L' := [some (.inr (.inr (some 79))), some (.inl 11)]) (st' := [.inr (.inr (some 79))]) (w' := (SH, dt6)) rfl ?_
          refine go_callq PM170 PM159 (Q' := _) rfl rfl rfl rfl (sp_X6_next0 L xs sio (d + 6) dt6 hI7   (by first | exact True.intro | with_reducible assumption | exact unhid (by with_reducible assumption) | rfl | omega | trivial)) ?_
          rintro _ _ ⟨dt53, rfl, hI54, hF55, h52⟩
          refine ⟨rfl, ?_⟩
          have hF56 : Fr [79, 84] dt dt53 := Fr_tr hF9 hF55 (by decide)
          have E8457 : dt53 84 = dt6 84 := funext (hF55 84 (by decide))
          rcases h52 with ⟨rfl, h52⟩
          obtain ⟨h52_0, h52_1, h52_2, h52_3, h52_4, h52_5, h52_6, h52_7, h52_8⟩ := h52
          refine go_toq PM170 (k := 1) (pc' := 164) (L' := [some (.inr (.inr (some 79))), some (.inl 11)]) (st' := [.inr (.inr (some 79))]) (w' := (SH, dt53)) rfl ?_
          refine go_callq PM170 PM165 (Q' := _) rfl rfl rfl rfl (sp_X6_sumUp L xs sio (d + 3) dt53 hI54   (by first | exact True.intro | with_reducible assumption | exact unhid (by with_reducible assumption) | rfl | fail | trivial) (by first | exact True.intro | with_reducible assumption | exact unhid (by with_reducible assumption) | rfl | omega | trivial)) ?_
          rintro _ _ ⟨dt59, rfl, hI60, hF61, h58⟩
          refine ⟨rfl, ?_⟩
          have hF62 : Fr [79, 84] dt dt59 := Fr_tr hF56 hF61 (by decide)
          rcases h58 with ⟨rfl, h58⟩ | ⟨rfl, h58⟩
          · skip
            obtain ⟨h58_0, h58_1, h58_2, h58_3⟩ := h58
            refine go_retq PM170 (k := 2) (r := some (.inl 0)) (w1 := (SH, dt59)) rfl ?_
            exact ⟨dt59, rfl, hI60, hF62, (Or.inl ⟨rfl, ⟨by first | exact True.intro | with_reducible assumption | exact unhid (by with_reducible assumption) | rfl | omega | trivial, by first | exact True.intro | with_reducible assumption | exact unhid (by with_reducible assumption) | rfl | omega | trivial, by first | exact True.intro | with_reducible assumption | exact unhid (by with_reducible assumption) | rfl | omega | trivial, by first | exact True.intro | with_reducible assumption | exact unhid (by with_reducible assumption) | rfl | omega | trivial⟩⟩)⟩
          · skip
            obtain ⟨h58_0, h58_1, h58_2, h58_3, h58_4, h58_5, h58_6, h58_7, h58_8, h58_9, h58_10⟩ := h58
            refine go_toq PM170 (k := 4) (pc' := 175) (L' := [some (.inr (.inr (some 79))), some (.inl 11)]) (st' := [.inl 0, .inl 11, .inr (.inr (some 79))]) (w' := (SH, dt59)) rfl ?_
            refine go_callq PM170 PM163 (Q' := _) rfl rfl rfl rfl (sp_X6_lay L xs sio (d + 12) dt59 hI60  11 ⟨by decide, by decide⟩ 0 ⟨by decide, by decide⟩ (by first | exact True.intro | with_reducible assumption | exact unhid (by with_reducible assumption) | rfl | omega | trivial)) ?_
            rintro _ _ ⟨dt64, rfl, hI65, hF66, h63⟩
            refine ⟨rfl, ?_⟩
            have hF67 : Fr [79, 84] dt dt64 := Fr_tr hF62 hF66 (by decide)
            rcases h63 with ⟨rfl, h63⟩
            obtain ⟨h63_0, h63_1, h63_2, h63_3, h63_4, h63_5, h63_6, h63_7, h63_8, h63_9, h63_10, h63_11, h63_12⟩ := h63
            refine go_retq PM170 (k := 1) (r := some (.inl 1)) (w1 := (SH, dt64)) rfl ?_
            exact ⟨dt64, rfl, hI65, hF67, (Or.inr ⟨rfl, ⟨by first | exact True.intro | with_reducible assumption | exact unhid (by with_reducible assumption) | rfl | omega | trivial, by first | exact True.intro | with_reducible assumption | exact unhid (by with_reducible assumption) | rfl | omega | trivial, by first | exact True.intro | with_reducible assumption | exact unhid (by with_reducible assumption) | rfl | omega | trivial, by exact (InvC_get (by assumption) 79 15 rfl rfl).2, by first | assumption | exact PS_bin (by assumption) (by assumption) (by assumption) (by assumption) (by first | assumption | rfl) (by assumption) (by omega) (by omega) (by omega) | exact PS_un (by assumption) (by assumption) (by assumption) (by first | assumption | rfl) (by assumption) (by fail) (by fail) (by fail) (by fail) | exact PS_eq (by assumption) (by first | rfl | assumption) (by fail) (by fail) | exact PS_eq (by assumption) (by assumption) (by fail) (by fail) | exact PS_unit2 (by assumption) (by assumption) (by fail) (by fail) (by fail), by first | assumption | exact AGR_rfl | exact AGR_4 (by assumption) (by assumption) (by first | rfl | assumption) (by fail) | exact AGR_4 (by assumption) (by assumption) (by assumption) (by fail) | exact AGR_e (by assumption) | exact AGR_2 (by assumption) (by first | rfl | assumption) (by fail) | exact AGR_2 (by assumption) (by assumption) (by fail) | exact AGR_tr (by assumption) (by first | assumption | rfl) (by assumption) (by fail) | exact AGR_tr (by assumption) (by first | assumption | rfl) (AGR_tr (by assumption) (by first | assumption | rfl) (by assumption) (by omega)) (by omega) | exact AGR_tr (by assumption) (by first | assumption | rfl) (AGR_2 (by assumption) (by first | assumption | rfl) (by fail)) (by fail) | exact AGR_tr (by assumption) (by first | assumption | rfl) (AGR_tr (by assumption) (by first | assumption | rfl) (AGR_2 (by assumption) (by first | assumption | rfl) (by fail)) (by fail)) (by fail), by first | exact True.intro | with_reducible assumption | exact unhid (by with_reducible assumption) | rfl | omega | trivial, by first | exact True.intro | with_reducible assumption | exact unhid (by with_reducible assumption) | rfl | omega | trivial, by first | exact True.intro | with_reducible assumption | exact unhid (by with_reducible assumption) | rfl | omega | trivial, by first | exact True.intro | with_reducible assumption | exact unhid (by with_reducible assumption) | rfl | omega | trivial, by first | exact True.intro | with_reducible assumption | exact unhid (by with_reducible assumption) | rfl | omega | trivial⟩⟩)⟩
    · skip
      refine go_toq PM170 (k := 1) (pc' := 55) (L' := [some (.inr (.inr (some 79))), none]) (st' := [.inr (.inr (some 79))]) (w' := (SH, dt)) rfl ?_
      refine go_callq PM170 PM164 (Q' := _) rfl rfl rfl rfl (sp_X6_opens L xs sio (d + 5) dt hI   (by first | exact True.intro | with_reducible assumption | exact unhid (by with_reducible assumption) | rfl | fail | trivial) (by first | exact True.intro | with_reducible assumption | exact unhid (by with_reducible assumption) | rfl | omega | trivial)) ?_
      rintro _ _ ⟨dt69, rfl, hI70, hF71, h68⟩
      refine ⟨rfl, ?_⟩
      have hF72 : Fr [79, 84] dt dt69 := Fr_tr hF hF71 (by decide)
      have E8473 : dt69 84 = dt 84 := funext (hF71 84 (by decide))
      rcases h68 with ⟨rfl, h68⟩ | ⟨rfl, h68⟩
      · skip
        obtain ⟨h68_0, h68_1, h68_2, h68_3⟩ := h68
        refine go_retq PM170 (k := 2) (r := some (.inl 0)) (w1 := (SH, dt69)) rfl ?_
        exact ⟨dt69, rfl, hI70, hF72, (Or.inl ⟨rfl, ⟨by first | exact True.intro | with_reducible assumption | exact unhid (by with_reducible assumption) | rfl | fail | trivial, by first | exact True.intro | with_reducible assumption | exact unhid (by with_reducible assumption) | rfl | fail | trivial, by first | exact True.intro | with_reducible assumption | exact unhid (by with_reducible assumption) | rfl | fail | trivial, by first | exact True.intro | with_reducible assumption | exact unhid (by with_reducible assumption) | rfl | fail | trivial⟩⟩)⟩
      · skip
        obtain ⟨h68_0, h68_1, h68_2, h68_3, h68_4, h68_5, h68_6, h68_7, h68_8, h68_9⟩ := h68
        refine go_toq PM170 (k := 2) (pc' := 62) (L' := [some (.inr (.inr (some 79))), none]) (st' := [.inr (.inr (some 79))]) (w' := (SH, dt69)) rfl ?_
        refine go_callq PM170 PM168 (Q' := _) rfl rfl rfl rfl (IH_X6_any L xs sio (d + 0) dt69 hI70   (by first | exact True.intro | with_reducible assumption | exact unhid (by with_reducible assumption) | rfl | fail | trivial) (by first | exact True.intro | with_reducible assumption | exact unhid (by with_reducible assumption) | rfl | omega | trivial) (by first | exact True.intro | with_reducible assumption | exact unhid (by with_reducible assumption) | rfl | omega | trivial) (by first | exact True.intro | with_reducible assumption | exact unhid (by with_reducible assumption) | rfl | omega | trivial)) ?_
        rintro _ _ ⟨dt75, rfl, hI76, hF77, h74⟩
        refine ⟨rfl, ?_⟩
        have hF78 : Fr [79, 84] dt dt75 := Fr_tr hF72 hF77 (by decide)
        rcases h74 with ⟨rfl, h74⟩ | ⟨rfl, h74⟩
        · skip
          obtain ⟨h74_0, h74_1, h74_2, h74_3⟩ := h74
          refine go_retq PM170 (k := 2) (r := some (.inl 0)) (w1 := (SH, dt75)) rfl ?_
          exact ⟨dt75, rfl, hI76, hF78, (Or.inl ⟨rfl, ⟨by first | exact True.intro | with_reducible assumption | exact unhid (by with_reducible assumption) | rfl | omega | trivial, by first | exact True.intro | with_reducible assumption | exact unhid (by with_reducible assumption) | rfl | omega | trivial, by first | exact True.intro | with_reducible assumption | exact unhid (by with_reducible assumption) | rfl | omega | trivial, by first | exact True.intro | with_reducible assumption | exact unhid (by with_reducible assumption) | rfl | omega | trivial⟩⟩)⟩
        · skip
          obtain ⟨h74_0, h74_1, h74_2, h74_3, h74_4, h74_5, h74_6, h74_7, h74_8, h74_9, h74_10⟩ := h74
          refine go_toq PM170 (k := 3) (pc' := 72) (L' := [some (.inr (.inr (some 79))), none]) (st' := [.inl 141, .inr (.inr (some 79))]) (w' := (SH, dt75)) rfl ?_
          refine go_callq PM170 PM161 (Q' := _) rfl rfl rfl rfl (sp_X6_need0 L xs sio (d + 5) dt75 hI76  141 ⟨by decide, by decide⟩ (by first | exact True.intro | with_reducible assumption | exact unhid (by with_reducible assumption) | rfl | fail | trivial)) ?_
          rintro _ _ ⟨dt80, rfl, hI81, hF82, h79⟩
          refine ⟨rfl, ?_⟩
          have hF83 : Fr [79, 84] dt dt80 := Fr_tr hF78 hF82 (by decide)
          have E8484 : dt80 84 = dt75 84 := funext (hF82 84 (by decide))
          rcases h79 with ⟨rfl, h79⟩ | ⟨rfl, h79⟩
          · skip
            obtain ⟨h79_0, h79_1, h79_2, h79_3⟩ := h79
            refine go_retq PM170 (k := 2) (r := some (.inl 0)) (w1 := (SH, dt80)) rfl ?_
            exact ⟨dt80, rfl, hI81, hF83, (Or.inl ⟨rfl, ⟨by first | exact True.intro | with_reducible assumption | exact unhid (by with_reducible assumption) | rfl | omega | trivial, by first | exact True.intro | with_reducible assumption | exact unhid (by with_reducible assumption) | rfl | omega | trivial, by first | exact True.intro | with_reducible assumption | exact unhid (by with_reducible assumption) | rfl | omega | trivial, by first | exact True.intro | with_reducible assumption | exact unhid (by with_reducible assumption) | rfl | omega | trivial⟩⟩)⟩
          · skip
            obtain ⟨h79_0, h79_1, h79_2, h79_3, h79_4, h79_5, h79_6, h79_7, h79_8⟩ := h79
            have r85 : 0 ≤ dt80 79 20 ∧ dt80 79 20 ≤ 8 := InvC_get hI81 79 20 rfl rfl
            refine go_toq PM170 (k := 6) (pc' := 87) (L' := [some (.inr (.inr (some 79))), none]) (st' := [.inl ((dt80 79 20) - 1), .inr (.inr (some 79))]) (w' := (SH, dt80)) rfl ?_
            have hI86 : InvC (u2 dt80 79 20 ((dt80 79 20) - 1)) := InvC_u2 hI81 (lo := 0) (hi := 8) rfl rfl rfl (by omega) (by omega)
            have hF87 : Fr [79, 84] dt (u2 dt80 79 20 ((dt80 79 20) - 1)) := Fr_u2 hF83 (by decide)
            have w88 : (u2 dt80 79 20 ((dt80 79 20) - 1)) 79 2 = dt80 79 2 := rfl
            have w89 : (u2 dt80 79 20 ((dt80 79 20) - 1)) 79 9 = dt80 79 9 := rfl
            have w90 : (u2 dt80 79 20 ((dt80 79 20) - 1)) 79 10 = dt80 79 10 := rfl
            have w91 : (u2 dt80 79 20 ((dt80 79 20) - 1)) 79 11 = dt80 79 11 := rfl
            have w92 : (u2 dt80 79 20 ((dt80 79 20) - 1)) 79 12 = dt80 79 12 := rfl
            have w93 : (u2 dt80 79 20 ((dt80 79 20) - 1)) 79 13 = dt80 79 13 := rfl
            have w94 : (u2 dt80 79 20 ((dt80 79 20) - 1)) 79 14 = dt80 79 14 := rfl
            have w95 : (u2 dt80 79 20 ((dt80 79 20) - 1)) 79 15 = dt80 79 15 := rfl
            have w96 : (u2 dt80 79 20 ((dt80 79 20) - 1)) 79 16 = dt80 79 16 := rfl
            have w97 : (u2 dt80 79 20 ((dt80 79 20) - 1)) 79 20 = (dt80 79 20) - 1 := rfl
            have E8498 : (u2 dt80 79 20 ((dt80 79 20) - 1)) 84 = dt75 84 := (funext fun _ => rfl).trans E8484
            refine go_smpq PM170 (L' := [some (.inr (.inr (some 79))), none]) (st' := []) (w' := (SH, (u2 dt80 79 20 ((dt80 79 20) - 1)))) rfl rfl (s_pf rfl rfl rfl rfl ⟨by omega, by omega⟩) ?_
            refine go_retq PM170 (k := 1) (r := some (.inl 1)) (w1 := (SH, (u2 dt80 79 20 ((dt80 79 20) - 1)))) rfl ?_
            exact ⟨(u2 dt80 79 20 ((dt80 79 20) - 1)), rfl, hI86, hF87, (Or.inr ⟨rfl, ⟨by first | exact True.intro | with_reducible assumption | exact unhid (by with_reducible assumption) | rfl | omega | trivial, by first | exact True.intro | with_reducible assumption | exact unhid (by with_reducible assumption) | rfl | omega | trivial, by first | exact True.intro | with_reducible assumption | exact unhid (by with_reducible assumption) | rfl | omega | trivial, by exact (InvC_get (by assumption) 79 15 rfl rfl).2, by first | assumption | exact PS_bin (by assumption) (by assumption) (by assumption) (by assumption) (by first | assumption | rfl) (by assumption) (by fail) (by fail) (by fail) | exact PS_un (by assumption) (by assumption) (by assumption) (by first | assumption | rfl) (by assumption) (by fail) (by fail) (by fail) (by fail) | exact PS_eq (by assumption) (by first | rfl | assumption) (by omega) (by omega) | exact PS_eq (by assumption) (by assumption) (by fail) (by fail) | exact PS_unit2 (by assumption) (by assumption) (by fail) (by fail) (by fail), by first | assumption | exact AGR_rfl | exact AGR_4 (by assumption) (by assumption) (by first | rfl | assumption) (by omega) | exact AGR_4 (by assumption) (by assumption) (by assumption) (by fail) | exact AGR_e (by assumption) | exact AGR_2 (by assumption) (by first | rfl | assumption) (by fail) | exact AGR_2 (by assumption) (by assumption) (by fail) | exact AGR_tr (by assumption) (by first | assumption | rfl) (by assumption) (by fail) | exact AGR_tr (by assumption) (by first | assumption | rfl) (AGR_tr (by assumption) (by first | assumption | rfl) (by assumption) (by fail)) (by fail) | exact AGR_tr (by assumption) (by first | assumption | rfl) (AGR_2 (by assumption) (by first | assumption | rfl) (by fail)) (by fail) | exact AGR_tr (by assumption) (by first | assumption | rfl) (AGR_tr (by assumption) (by first | assumption | rfl) (AGR_2 (by assumption) (by first | assumption | rfl) (by fail)) (by fail)) (by fail), by first | exact True.intro | with_reducible assumption | exact unhid (by with_reducible assumption) | rfl | omega | trivial, by first | exact True.intro | with_reducible assumption | exact unhid (by with_reducible assumption) | rfl | omega | trivial, by first | exact True.intro | with_reducible assumption | exact unhid (by with_reducible assumption) | rfl | omega | trivial, by first | exact True.intro | with_reducible assumption | exact unhid (by with_reducible assumption) | rfl | omega | trivial, by first | exact True.intro | with_reducible assumption | exact unhid (by with_reducible assumption) | rfl | omega | trivial⟩⟩)⟩
  · skip
    refine go_toq PM170 (k := 1) (pc' := 10) (L' := [some (.inr (.inr (some 79))), none]) (st' := [.inr (.inr (some 79))]) (w' := (SH, dt)) rfl ?_
    refine go_callq PM170 PM164 (Q' := _) rfl rfl rfl rfl (sp_X6_opens L xs sio (d + 5) dt hI   (by first | exact True.intro | with_reducible assumption | rfl | fail | trivial) (by first | exact True.intro | with_reducible assumption | rfl | omega | trivial)) ?_
    rintro _ _ ⟨dt100, rfl, hI101, hF102, h99⟩
    refine ⟨rfl, ?_⟩
    have hF103 : Fr [79, 84] dt dt100 := Fr_tr hF hF102 (by decide)
    have E84104 : dt100 84 = dt 84 := funext (hF102 84 (by decide))
    rcases h99 with ⟨rfl, h99⟩ | ⟨rfl, h99⟩
    · skip
      obtain ⟨h99_0, h99_1, h99_2, h99_3⟩ := h99
      refine go_retq PM170 (k := 2) (r := some (.inl 0)) (w1 := (SH, dt100)) rfl ?_
      exact ⟨dt100, rfl, hI101, hF103, (Or.inl ⟨rfl, ⟨by first | exact True.intro | with_reducible assumption | rfl | fail | trivial, by first | exact True.intro | with_reducible assumption | rfl | fail | trivial, by first | exact True.intro | with_reducible assumption | rfl | fail | trivial, by first | exact True.intro | with_reducible assumption | rfl | fail | trivial⟩⟩)⟩
    · skip
      obtain ⟨h99_0, h99_1, h99_2, h99_3, h99_4, h99_5, h99_6, h99_7, h99_8, h99_9⟩ := h99
      refine go_toq PM170 (k := 2) (pc' := 17) (L' := [some (.inr (.inr (some 79))), none]) (st' := [.inr (.inr (some 79))]) (w' := (SH, dt100)) rfl ?_
      refine go_callq PM170 PM170 (Q' := _) rfl rfl rfl rfl (IH_X6_one L xs sio (d + 2) dt100 hI101   (by first | exact True.intro | with_reducible assumption | rfl | fail | trivial) (by first | exact True.intro | with_reducible assumption | rfl | omega | trivial) (by first | exact True.intro | with_reducible assumption | rfl | omega | trivial) (by first | exact True.intro | with_reducible assumption | rfl | omega | trivial)) ?_
      rintro _ _ ⟨dt106, rfl, hI107, hF108, h105⟩
      refine ⟨rfl, ?_⟩
      have hF109 : Fr [79, 84] dt dt106 := Fr_tr hF103 hF108 (by decide)
      rcases h105 with ⟨rfl, h105⟩ | ⟨rfl, h105⟩
      · skip
        obtain ⟨h105_0, h105_1, h105_2, h105_3⟩ := h105
        refine go_retq PM170 (k := 2) (r := some (.inl 0)) (w1 := (SH, dt106)) rfl ?_
        exact ⟨dt106, rfl, hI107, hF109, (Or.inl ⟨rfl, ⟨by first | exact True.intro | with_reducible assumption | rfl | omega | trivial, by first | exact True.intro | with_reducible assumption | rfl | omega | trivial, by first | exact True.intro | with_reducible assumption | rfl | omega | trivial, by first | exact True.intro | with_reducible assumption | rfl | omega | trivial⟩⟩)⟩
      · skip
        obtain ⟨h105_0, h105_1, h105_2, h105_3, h105_4, h105_5, h105_6, h105_7, h105_8, h105_9, h105_10⟩ := h105
        have r110 : 0 ≤ dt106 79 20 ∧ dt106 79 20 ≤ 8 := InvC_get hI107 79 20 rfl rfl
        refine go_toq PM170 (k := 6) (pc' := 32) (L' := [some (.inr (.inr (some 79))), none]) (st' := [.inl ((dt106 79 20) - 1), .inr (.inr (some 79))]) (w' := (SH, dt106)) rfl ?_
        have hI111 : InvC (u2 dt106 79 20 ((dt106 79 20) - 1)) := InvC_u2 hI107 (lo := 0) (hi := 8) rfl rfl rfl (by omega) (by omega)
        have hF112 : Fr [79, 84] dt (u2 dt106 79 20 ((dt106 79 20) - 1)) := Fr_u2 hF109 (by decide)
        have w113 : (u2 dt106 79 20 ((dt106 79 20) - 1)) 79 2 = dt106 79 2 := rfl
        have w114 : (u2 dt106 79 20 ((dt106 79 20) - 1)) 79 9 = dt106 79 9 := rfl
        have w115 : (u2 dt106 79 20 ((dt106 79 20) - 1)) 79 10 = dt106 79 10 := rfl
        have w116 : (u2 dt106 79 20 ((dt106 79 20) - 1)) 79 11 = dt106 79 11 := rfl
        have w117 : (u2 dt106 79 20 ((dt106 79 20) - 1)) 79 12 = dt106 79 12 := rfl
        have w118 : (u2 dt106 79 20 ((dt106 79 20) - 1)) 79 13 = dt106 79 13 := rfl
        have w119 : (u2 dt106 79 20 ((dt106 79 20) - 1)) 79 14 = dt106 79 14 := rfl
        have w120 : (u2 dt106 79 20 ((dt106 79 20) - 1)) 79 15 = dt106 79 15 := rfl
        have w121 : (u2 dt106 79 20 ((dt106 79 20) - 1)) 79 16 = dt106 79 16 := rfl
        have w122 : (u2 dt106 79 20 ((dt106 79 20) - 1)) 79 20 = (dt106 79 20) - 1 := rfl
        have E84123 : (u2 dt106 79 20 ((dt106 79 20) - 1)) 84 = dt106 84 := funext fun _ => rfl
        refine go_smpq PM170 (L' := [some (.inr (.inr (some 79))), none]) (st' := []) (w' := (SH, (u2 dt106 79 20 ((dt106 79 20) - 1)))) rfl rfl (s_pf rfl rfl rfl rfl ⟨by omega, by omega⟩) ?_
        refine go_toq PM170 (k := 3) (pc' := 39) (L' := [some (.inr (.inr (some 79))), none]) (st' := [.inl 0, .inl 14, .inr (.inr (some 79))]) (w' := (SH, (u2 dt106 79 20 ((dt106 79 20) - 1)))) rfl ?_
        refine go_callq PM170 PM163 (Q' := _) rfl rfl rfl rfl (sp_X6_lay L xs sio (d + 12) (u2 dt106 79 20 ((dt106 79 20) - 1)) hI111  14 ⟨by decide, by decide⟩ 0 ⟨by decide, by decide⟩ (by first | exact True.intro | with_reducible assumption | rfl | omega | trivial)) ?_
        rintro _ _ ⟨dt125, rfl, hI126, hF127, h124⟩
        refine ⟨rfl, ?_⟩
        have hF128 : Fr [79, 84] dt dt125 := Fr_tr hF112 hF127 (by decide)
        rcases h124 with ⟨rfl, h124⟩
        obtain ⟨h124_0, h124_1, h124_2, h124_3, h124_4, h124_5, h124_6, h124_7, h124_8, h124_9, h124_10, h124_11, h124_12⟩ := h124
        refine go_retq PM170 (k := 1) (r := some (.inl 1)) (w1 := (SH, dt125)) rfl ?_
        exact ⟨dt125, rfl, hI126, hF128, (Or.inr ⟨rfl, ⟨by first | exact True.intro | with_reducible assumption | rfl | omega | trivial, by first | exact True.intro | with_reducible assumption | rfl | omega | trivial, by first | exact True.intro | with_reducible assumption | rfl | omega | trivial, by exact (InvC_get (by assumption) 79 15 rfl rfl).2, by first | assumption | exact PS_bin (by assumption) (by assumption) (by assumption) (by assumption) (by first | assumption | rfl) (by assumption) (by fail) (by fail) (by fail) | exact PS_un (by assumption) (by assumption) (by assumption) (by first | assumption | rfl) (by assumption) (by omega) (by omega) (by omega) (by omega) | exact PS_eq (by assumption) (by first | rfl | assumption) (by fail) (by fail) | exact PS_eq (by assumption) (by assumption) (by fail) (by fail) | exact PS_unit2 (by assumption) (by assumption) (by fail) (by fail) (by fail), by first | assumption | exact AGR_rfl | exact AGR_4 (by assumption) (by assumption) (by first | rfl | assumption) (by fail) | exact AGR_4 (by assumption) (by assumption) (by assumption) (by fail) | exact AGR_e (by assumption) | exact AGR_2 (by assumption) (by first | rfl | assumption) (by fail) | exact AGR_2 (by assumption) (by assumption) (by fail) | exact AGR_tr (by assumption) (by first | assumption | rfl) (by assumption) (by fail) | exact AGR_tr (by assumption) (by first | assumption | rfl) (AGR_tr (by assumption) (by first | assumption | rfl) (by assumption) (by fail)) (by fail) | exact AGR_tr (by assumption) (by first | assumption | rfl) (AGR_2 (by assumption) (by first | assumption | rfl) (by omega)) (by omega) | exact AGR_tr (by assumption) (by first | assumption | rfl) (AGR_tr (by assumption) (by first | assumption | rfl) (AGR_2 (by assumption) (by first | assumption | rfl) (by fail)) (by fail)) (by fail), by first | exact True.intro | with_reducible assumption | rfl | omega | trivial, by first | exact True.intro | with_reducible assumption | rfl | omega | trivial, by first | exact True.intro | with_reducible assumption | rfl | omega | trivial, by first | exact True.intro | with_reducible assumption | rfl | omega | trivial, by first | exact True.intro | with_reducible assumption | rfl | omega | trivial⟩⟩)⟩
theorem lv_all_X6_one : ∀ j : Nat, (∀ (L : Nat) (xs : Nat → Int32) (sio : Option Nat) (d : Nat) (dt : Nat → Nat → Int) (hI : InvC dt) (h_p0 : (¬ dt 79 14 = 0 → dt 79 15 + 1 ≤ dt 79 13) ∧ dt 79 13 ≤ 500) (h_p1 : dt 79 11 ≤ dt 79 15) (h_p2 : dt 79 20 + ((j : Nat) : Int) = 8) (h_p3 : 3 * j ≤ d), GO (am_XX L xs sio) (d + 10) 170 0 [some (.inr (.inr (some 79))), none] [] (SH, dt) (fun r w2 => ∃ dt2 : Nat → Nat → Int, w2 = (SH, dt2) ∧ InvC dt2 ∧ Fr [79, 84] dt dt2 ∧ ((r = some (.inl 0) ∧ (dt2 79 2 = dt 79 2) ∧ (dt2 79 9 = dt 79 9) ∧ (dt2 79 10 = dt 79 10) ∧ (dt2 79 12 = dt 79 12)) ∨ (r = some (.inl 1) ∧ (dt 79 15 + dt2 79 11 ≤ dt2 79 15 + dt 79 11) ∧ (dt 79 11 + 1 ≤ dt2 79 11) ∧ ((¬ dt2 79 14 = 0 → dt2 79 15 + 1 ≤ dt2 79 13) ∧ dt2 79 13 ≤ 500) ∧ (dt2 79 15 ≤ 500) ∧ (PS (dt2 84) (dt 79 11) (dt2 79 11)) ∧ (AGR (dt2 84) (dt 84) (dt 79 11)) ∧ (dt2 79 2 = dt 79 2) ∧ (dt2 79 9 = dt 79 9) ∧ (dt2 79 10 = dt 79 10) ∧ (dt2 79 12 = dt 79 12) ∧ (dt2 79 20 = dt 79 20))))) ∧ (∀ (L : Nat) (xs : Nat → Int32) (sio : Option Nat) (d : Nat) (dt : Nat → Nat → Int) (hI : InvC dt) (h_p0 : (¬ dt 79 14 = 0 → dt 79 15 + 1 ≤ dt 79 13) ∧ dt 79 13 ≤ 500) (h_p1 : dt 79 11 ≤ dt 79 15) (h_p2 : dt 79 20 + ((j : Nat) : Int) = 8) (h_p3 : 3 * j ≤ d), GO (am_XX L xs sio) (d + 11) 169 0 [some (.inr (.inr (some 79)))] [] (SH, dt) (fun r w2 => ∃ dt2 : Nat → Nat → Int, w2 = (SH, dt2) ∧ InvC dt2 ∧ Fr [79, 84] dt dt2 ∧ ((r = some (.inl 0) ∧ (dt2 79 2 = dt 79 2) ∧ (dt2 79 9 = dt 79 9) ∧ (dt2 79 10 = dt 79 10) ∧ (dt2 79 12 = dt 79 12)) ∨ (r = some (.inl 1) ∧ (dt 79 15 + dt2 79 11 ≤ dt2 79 15 + dt 79 11) ∧ (dt 79 11 + 1 ≤ dt2 79 11) ∧ ((¬ dt2 79 14 = 0 → dt2 79 15 + 1 ≤ dt2 79 13) ∧ dt2 79 13 ≤ 500) ∧ (dt2 79 15 ≤ 500) ∧ (PS (dt2 84) (dt 79 11) (dt2 79 11)) ∧ (AGR (dt2 84) (dt 84) (dt 79 11)) ∧ (dt2 79 2 = dt 79 2) ∧ (dt2 79 9 = dt 79 9) ∧ (dt2 79 10 = dt 79 10) ∧ (dt2 79 12 = dt 79 12) ∧ (dt2 79 20 = dt 79 20))))) ∧ (∀ (L : Nat) (xs : Nat → Int32) (sio : Option Nat) (d : Nat) (dt : Nat → Nat → Int) (hI : InvC dt) (h_p0 : (¬ dt 79 14 = 0 → dt 79 15 + 1 ≤ dt 79 13) ∧ dt 79 13 ≤ 500) (h_p1 : dt 79 11 ≤ dt 79 15) (h_p2 : dt 79 20 + ((j : Nat) : Int) = 8) (h_p3 : 3 * j ≤ d), GO (am_XX L xs sio) (d + 12) 168 0 [some (.inr (.inr (some 79)))] [] (SH, dt) (fun r w2 => ∃ dt2 : Nat → Nat → Int, w2 = (SH, dt2) ∧ InvC dt2 ∧ Fr [79, 84] dt dt2 ∧ ((r = some (.inl 0) ∧ (dt2 79 2 = dt 79 2) ∧ (dt2 79 9 = dt 79 9) ∧ (dt2 79 10 = dt 79 10) ∧ (dt2 79 12 = dt 79 12)) ∨ (r = some (.inl 1) ∧ (dt 79 15 + dt2 79 11 ≤ dt2 79 15 + dt 79 11) ∧ (dt 79 11 + 1 ≤ dt2 79 11) ∧ ((¬ dt2 79 14 = 0 → dt2 79 15 + 1 ≤ dt2 79 13) ∧ dt2 79 13 ≤ 500) ∧ (dt2 79 15 ≤ 500) ∧ (PS (dt2 84) (dt 79 11) (dt2 79 11)) ∧ (AGR (dt2 84) (dt 84) (dt 79 11)) ∧ (dt2 79 2 = dt 79 2) ∧ (dt2 79 9 = dt 79 9) ∧ (dt2 79 10 = dt 79 10) ∧ (dt2 79 12 = dt 79 12) ∧ (dt2 79 20 = dt 79 20)))))
  | 0 => by
    have g0 : ∀ (L : Nat) (xs : Nat → Int32) (sio : Option Nat) (d : Nat) (dt : Nat → Nat → Int) (hI : InvC dt) (h_p0 : (¬ dt 79 14 = 0 → dt 79 15 + 1 ≤ dt 79 13) ∧ dt 79 13 ≤ 500) (h_p1 : dt 79 11 ≤ dt 79 15) (h_p2 : dt 79 20 + ((0 : Nat) : Int) = 8) (h_p3 : 3 * 0 ≤ d), GO (am_XX L xs sio) (d + 10) 170 0 [some (.inr (.inr (some 79))), none] [] (SH, dt) (fun r w2 => ∃ dt2 : Nat → Nat → Int, w2 = (SH, dt2) ∧ InvC dt2 ∧ Fr [79, 84] dt dt2 ∧ ((r = some (.inl 0) ∧ (dt2 79 2 = dt 79 2) ∧ (dt2 79 9 = dt 79 9) ∧ (dt2 79 10 = dt 79 10) ∧ (dt2 79 12 = dt 79 12)) ∨ (r = some (.inl 1) ∧ (dt 79 15 + dt2 79 11 ≤ dt2 79 15 + dt 79 11) ∧ (dt 79 11 + 1 ≤ dt2 79 11) ∧ ((¬ dt2 79 14 = 0 → dt2 79 15 + 1 ≤ dt2 79 13) ∧ dt2 79 13 ≤ 500) ∧ (dt2 79 15 ≤ 500) ∧ (PS (dt2 84) (dt 79 11) (dt2 79 11)) ∧ (AGR (dt2 84) (dt 84) (dt 79 11)) ∧ (dt2 79 2 = dt 79 2) ∧ (dt2 79 9 = dt 79 9) ∧ (dt2 79 10 = dt 79 10) ∧ (dt2 79 12 = dt 79 12) ∧ (dt2 79 20 = dt 79 20)))) := by
      intro z0 z1 z2 z3 z4 z5 z6 z7 z8 z9
      exact sp_X6_one_8 z0 z1 z2 z3 z4 z5 z6 z7 (by omega)
    have g1 : ∀ (L : Nat) (xs : Nat → Int32) (sio : Option Nat) (d : Nat) (dt : Nat → Nat → Int) (hI : InvC dt) (h_p0 : (¬ dt 79 14 = 0 → dt 79 15 + 1 ≤ dt 79 13) ∧ dt 79 13 ≤ 500) (h_p1 : dt 79 11 ≤ dt 79 15) (h_p2 : dt 79 20 + ((0 : Nat) : Int) = 8) (h_p3 : 3 * 0 ≤ d), GO (am_XX L xs sio) (d + 11) 169 0 [some (.inr (.inr (some 79)))] [] (SH, dt) (fun r w2 => ∃ dt2 : Nat → Nat → Int, w2 = (SH, dt2) ∧ InvC dt2 ∧ Fr [79, 84] dt dt2 ∧ ((r = some (.inl 0) ∧ (dt2 79 2 = dt 79 2) ∧ (dt2 79 9 = dt 79 9) ∧ (dt2 79 10 = dt 79 10) ∧ (dt2 79 12 = dt 79 12)) ∨ (r = some (.inl 1) ∧ (dt 79 15 + dt2 79 11 ≤ dt2 79 15 + dt 79 11) ∧ (dt 79 11 + 1 ≤ dt2 79 11) ∧ ((¬ dt2 79 14 = 0 → dt2 79 15 + 1 ≤ dt2 79 13) ∧ dt2 79 13 ≤ 500) ∧ (dt2 79 15 ≤ 500) ∧ (PS (dt2 84) (dt 79 11) (dt2 79 11)) ∧ (AGR (dt2 84) (dt 84) (dt 79 11)) ∧ (dt2 79 2 = dt 79 2) ∧ (dt2 79 9 = dt 79 9) ∧ (dt2 79 10 = dt 79 10) ∧ (dt2 79 12 = dt 79 12) ∧ (dt2 79 20 = dt 79 20)))) := fun z0 z1 z2 z3 z4 z5 z6 z7 z8 z9 => lv_X6_every z0 z1 z2 z3 z4 z5 0 g0 z6 z7 z8 z9
    have g2 : ∀ (L : Nat) (xs : Nat → Int32) (sio : Option Nat) (d : Nat) (dt : Nat → Nat → Int) (hI : InvC dt) (h_p0 : (¬ dt 79 14 = 0 → dt 79 15 + 1 ≤ dt 79 13) ∧ dt 79 13 ≤ 500) (h_p1 : dt 79 11 ≤ dt 79 15) (h_p2 : dt 79 20 + ((0 : Nat) : Int) = 8) (h_p3 : 3 * 0 ≤ d), GO (am_XX L xs sio) (d + 12) 168 0 [some (.inr (.inr (some 79)))] [] (SH, dt) (fun r w2 => ∃ dt2 : Nat → Nat → Int, w2 = (SH, dt2) ∧ InvC dt2 ∧ Fr [79, 84] dt dt2 ∧ ((r = some (.inl 0) ∧ (dt2 79 2 = dt 79 2) ∧ (dt2 79 9 = dt 79 9) ∧ (dt2 79 10 = dt 79 10) ∧ (dt2 79 12 = dt 79 12)) ∨ (r = some (.inl 1) ∧ (dt 79 15 + dt2 79 11 ≤ dt2 79 15 + dt 79 11) ∧ (dt 79 11 + 1 ≤ dt2 79 11) ∧ ((¬ dt2 79 14 = 0 → dt2 79 15 + 1 ≤ dt2 79 13) ∧ dt2 79 13 ≤ 500) ∧ (dt2 79 15 ≤ 500) ∧ (PS (dt2 84) (dt 79 11) (dt2 79 11)) ∧ (AGR (dt2 84) (dt 84) (dt 79 11)) ∧ (dt2 79 2 = dt 79 2) ∧ (dt2 79 9 = dt 79 9) ∧ (dt2 79 10 = dt 79 10) ∧ (dt2 79 12 = dt 79 12) ∧ (dt2 79 20 = dt 79 20)))) := fun z0 z1 z2 z3 z4 z5 z6 z7 z8 z9 => lv_X6_any z0 z1 z2 z3 z4 z5 0 g1 z6 z7 z8 z9
    exact ⟨g0, g1, g2⟩
  | j + 1 => by
    obtain ⟨h_X6_one, h_X6_every, h_X6_any⟩ := lv_all_X6_one j
    have g0 : ∀ (L : Nat) (xs : Nat → Int32) (sio : Option Nat) (d : Nat) (dt : Nat → Nat → Int) (hI : InvC dt) (h_p0 : (¬ dt 79 14 = 0 → dt 79 15 + 1 ≤ dt 79 13) ∧ dt 79 13 ≤ 500) (h_p1 : dt 79 11 ≤ dt 79 15) (h_p2 : dt 79 20 + (((j + 1) : Nat) : Int) = 8) (h_p3 : 3 * (j + 1) ≤ d), GO (am_XX L xs sio) (d + 10) 170 0 [some (.inr (.inr (some 79))), none] [] (SH, dt) (fun r w2 => ∃ dt2 : Nat → Nat → Int, w2 = (SH, dt2) ∧ InvC dt2 ∧ Fr [79, 84] dt dt2 ∧ ((r = some (.inl 0) ∧ (dt2 79 2 = dt 79 2) ∧ (dt2 79 9 = dt 79 9) ∧ (dt2 79 10 = dt 79 10) ∧ (dt2 79 12 = dt 79 12)) ∨ (r = some (.inl 1) ∧ (dt 79 15 + dt2 79 11 ≤ dt2 79 15 + dt 79 11) ∧ (dt 79 11 + 1 ≤ dt2 79 11) ∧ ((¬ dt2 79 14 = 0 → dt2 79 15 + 1 ≤ dt2 79 13) ∧ dt2 79 13 ≤ 500) ∧ (dt2 79 15 ≤ 500) ∧ (PS (dt2 84) (dt 79 11) (dt2 79 11)) ∧ (AGR (dt2 84) (dt 84) (dt 79 11)) ∧ (dt2 79 2 = dt 79 2) ∧ (dt2 79 9 = dt 79 9) ∧ (dt2 79 10 = dt 79 10) ∧ (dt2 79 12 = dt 79 12) ∧ (dt2 79 20 = dt 79 20)))) := by
      intro z0 z1 z2 z3 z4 z5 z6 z7 z8 z9
      have y := lv_X6_one z0 z1 z2 (z3 - 3) z4 z5 j h_X6_one h_X6_every h_X6_any z6 z7 z8 (by omega)
      rw [show z3 - 3 + 13 = z3 + 10 by first | with_reducible assumption | omega] at y
      exact y
    have g1 : ∀ (L : Nat) (xs : Nat → Int32) (sio : Option Nat) (d : Nat) (dt : Nat → Nat → Int) (hI : InvC dt) (h_p0 : (¬ dt 79 14 = 0 → dt 79 15 + 1 ≤ dt 79 13) ∧ dt 79 13 ≤ 500) (h_p1 : dt 79 11 ≤ dt 79 15) (h_p2 : dt 79 20 + (((j + 1) : Nat) : Int) = 8) (h_p3 : 3 * (j + 1) ≤ d), GO (am_XX L xs sio) (d + 11) 169 0 [some (.inr (.inr (some 79)))] [] (SH, dt) (fun r w2 => ∃ dt2 : Nat → Nat → Int, w2 = (SH, dt2) ∧ InvC dt2 ∧ Fr [79, 84] dt dt2 ∧ ((r = some (.inl 0) ∧ (dt2 79 2 = dt 79 2) ∧ (dt2 79 9 = dt 79 9) ∧ (dt2 79 10 = dt 79 10) ∧ (dt2 79 12 = dt 79 12)) ∨ (r = some (.inl 1) ∧ (dt 79 15 + dt2 79 11 ≤ dt2 79 15 + dt 79 11) ∧ (dt 79 11 + 1 ≤ dt2 79 11) ∧ ((¬ dt2 79 14 = 0 → dt2 79 15 + 1 ≤ dt2 79 13) ∧ dt2 79 13 ≤ 500) ∧ (dt2 79 15 ≤ 500) ∧ (PS (dt2 84) (dt 79 11) (dt2 79 11)) ∧ (AGR (dt2 84) (dt 84) (dt 79 11)) ∧ (dt2 79 2 = dt 79 2) ∧ (dt2 79 9 = dt 79 9) ∧ (dt2 79 10 = dt 79 10) ∧ (dt2 79 12 = dt 79 12) ∧ (dt2 79 20 = dt 79 20)))) := fun z0 z1 z2 z3 z4 z5 z6 z7 z8 z9 => lv_X6_every z0 z1 z2 z3 z4 z5 (j + 1) g0 z6 z7 z8 z9
    have g2 : ∀ (L : Nat) (xs : Nat → Int32) (sio : Option Nat) (d : Nat) (dt : Nat → Nat → Int) (hI : InvC dt) (h_p0 : (¬ dt 79 14 = 0 → dt 79 15 + 1 ≤ dt 79 13) ∧ dt 79 13 ≤ 500) (h_p1 : dt 79 11 ≤ dt 79 15) (h_p2 : dt 79 20 + (((j + 1) : Nat) : Int) = 8) (h_p3 : 3 * (j + 1) ≤ d), GO (am_XX L xs sio) (d + 12) 168 0 [some (.inr (.inr (some 79)))] [] (SH, dt) (fun r w2 => ∃ dt2 : Nat → Nat → Int, w2 = (SH, dt2) ∧ InvC dt2 ∧ Fr [79, 84] dt dt2 ∧ ((r = some (.inl 0) ∧ (dt2 79 2 = dt 79 2) ∧ (dt2 79 9 = dt 79 9) ∧ (dt2 79 10 = dt 79 10) ∧ (dt2 79 12 = dt 79 12)) ∨ (r = some (.inl 1) ∧ (dt 79 15 + dt2 79 11 ≤ dt2 79 15 + dt 79 11) ∧ (dt 79 11 + 1 ≤ dt2 79 11) ∧ ((¬ dt2 79 14 = 0 → dt2 79 15 + 1 ≤ dt2 79 13) ∧ dt2 79 13 ≤ 500) ∧ (dt2 79 15 ≤ 500) ∧ (PS (dt2 84) (dt 79 11) (dt2 79 11)) ∧ (AGR (dt2 84) (dt 84) (dt 79 11)) ∧ (dt2 79 2 = dt 79 2) ∧ (dt2 79 9 = dt 79 9) ∧ (dt2 79 10 = dt 79 10) ∧ (dt2 79 12 = dt 79 12) ∧ (dt2 79 20 = dt 79 20)))) := fun z0 z1 z2 z3 z4 z5 z6 z7 z8 z9 => lv_X6_any z0 z1 z2 z3 z4 z5 (j + 1) g1 z6 z7 z8 z9
    exact ⟨g0, g1, g2⟩
theorem sp_X6_any_0 (L : Nat) (xs : Nat → Int32) (sio : Option Nat) (d : Nat) (dt : Nat → Nat → Int) (hI : InvC dt) (h_p0 : (¬ dt 79 14 = 0 → dt 79 15 + 1 ≤ dt 79 13) ∧ dt 79 13 ≤ 500) (h_p1 : dt 79 11 ≤ dt 79 15) (h_p2 : dt 79 20 = 0) : GO (am_XX L xs sio) (d + 36) 168 0 [some (.inr (.inr (some 79)))] [] (SH, dt) (fun r w2 => ∃ dt2 : Nat → Nat → Int, w2 = (SH, dt2) ∧ InvC dt2 ∧ Fr [79, 84] dt dt2 ∧ ((r = some (.inl 0) ∧ (dt2 79 2 = dt 79 2) ∧ (dt2 79 9 = dt 79 9) ∧ (dt2 79 10 = dt 79 10) ∧ (dt2 79 12 = dt 79 12)) ∨ (r = some (.inl 1) ∧ (dt 79 15 + dt2 79 11 ≤ dt2 79 15 + dt 79 11) ∧ (dt 79 11 + 1 ≤ dt2 79 11) ∧ ((¬ dt2 79 14 = 0 → dt2 79 15 + 1 ≤ dt2 79 13) ∧ dt2 79 13 ≤ 500) ∧ (dt2 79 15 ≤ 500) ∧ (PS (dt2 84) (dt 79 11) (dt2 79 11)) ∧ (AGR (dt2 84) (dt 84) (dt 79 11)) ∧ (dt2 79 2 = dt 79 2) ∧ (dt2 79 9 = dt 79 9) ∧ (dt2 79 10 = dt 79 10) ∧ (dt2 79 12 = dt 79 12) ∧ (dt2 79 20 = dt 79 20)))) := (lv_all_X6_one 8).2.2 L xs sio (d + 24) dt hI h_p0 h_p1 (by omega) (by omega)
