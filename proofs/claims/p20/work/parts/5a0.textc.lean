theorem sp_X5_fault_f (L : Nat) (xs : Nat → Int32) (sio : Option Nat) (d : Nat) (dt : Nat → Nat → Int) (hI : InvC dt)  (p1 : Int) (h_p1 : (-2147483648) ≤ p1 ∧ p1 ≤ 2147483647)  : GO (am_XX L xs sio) (d) 71 0 [some (.inr (.inr (some 0))), some (.inl p1)] [] (SH, dt) (fun r w2 => w2 = (SH, dt) ∧ ((∃ v : Int, r = some (.inl v) ∧ ((-2147483648) ≤ v ∧ v ≤ 2147483647) ∧ ((p1 = 0 ∧ v = dt 35 2) ∨ (p1 = 1 ∧ v = dt 35 3) ∨ (¬ p1 = 0 ∧ ¬ p1 = 1 ∧ v = -1))))) := by
  have r1 : (-2147483648) ≤ dt 35 2 ∧ dt 35 2 ≤ 2147483647 := InvC_get hI 35 2 rfl rfl
  have r2 : (-2147483648) ≤ dt 35 3 ∧ dt 35 3 ≤ 2147483647 := InvC_get hI 35 3 rfl rfl
  refine go_ifq PM71 (k := 1) (p1 := 14) (p2 := 4) (L' := [some (.inr (.inr (some 0))), some (.inl p1)]) (st' := []) (w' := (SH, dt)) rfl (z_ne (a := p1) (by first | exact bnd h_p1 (by decide) (by decide) | exact ⟨by fail, by fail⟩)) (fun c3 => ?_) (fun c3 => ?_)
  · skip
    replace c3 := hid c3
    refine go_ifq PM71 (k := 2) (p1 := 29) (p2 := 19) (L' := [some (.inr (.inr (some 0))), some (.inl p1)]) (st' := []) (w' := (SH, dt)) rfl (c_ne (a := p1) (b := 1) (by first | exact bnd h_p1 (by decide) (by decide) | exact ⟨by fail, by fail⟩) ⟨by decide, by decide⟩) (fun c4 => ?_) (fun c4 => ?_)
    · skip
      replace c4 := hid c4
      refine go_retq PM71 (k := 1) (r := some (.inl (-1))) (w1 := (SH, dt)) rfl ?_
      exact ⟨rfl, ⟨_, rfl, ⟨by decide, by decide⟩, by first | exact True.intro | with_reducible assumption | exact unhid (by with_reducible assumption) | rfl | (have z0_ := unhid c3; have z1_ := unhid c4; omega) | trivial⟩⟩
    · skip
      refine go_retq PM71 (k := 4) (r := some (.inl (dt 35 3))) (w1 := (SH, dt)) rfl ?_
      exact ⟨rfl, ⟨_, rfl, (by first | exact bnd r2 (by decide) (by decide) | exact ⟨by fail, by fail⟩), by first | exact True.intro | with_reducible assumption | exact unhid (by with_reducible assumption) | rfl | omega | trivial⟩⟩
  · skip
    refine go_retq PM71 (k := 4) (r := some (.inl (dt 35 2))) (w1 := (SH, dt)) rfl ?_
    exact ⟨rfl, ⟨_, rfl, (by first | exact bnd r1 (by decide) (by decide) | exact ⟨by fail, by fail⟩), by first | exact True.intro | with_reducible assumption | rfl | omega | trivial⟩⟩
set_option maxRecDepth 20000 in
theorem sp_X6_fault_f (L : Nat) (xs : Nat → Int32) (sio : Option Nat) (d : Nat) (dt : Nat → Nat → Int) (hI : InvC dt)  (p1 : Int) (h_p1 : (-2147483648) ≤ p1 ∧ p1 ≤ 2147483647)  : GO (am_XX L xs sio) (d) 176 0 [some (.inr (.inr (some 79))), some (.inl p1)] [] (SH, dt) (fun r w2 => w2 = (SH, dt) ∧ ((∃ v : Int, r = some (.inl v) ∧ ((-2147483648) ≤ v ∧ v ≤ 2147483647) ∧ ((p1 = 0 ∧ v = dt 79 19) ∨ (p1 = 1 ∧ v = dt 79 21) ∨ (¬ p1 = 0 ∧ ¬ p1 = 1 ∧ v = -1))))) := by
  have r1 : (-2147483648) ≤ dt 79 19 ∧ dt 79 19 ≤ 2147483647 := InvC_get hI 79 19 rfl rfl
  have r2 : (-2147483648) ≤ dt 79 21 ∧ dt 79 21 ≤ 2147483647 := InvC_get hI 79 21 rfl rfl
  refine go_ifq PM176 (k := 1) (p1 := 11) (p2 := 4) (L' := [some (.inr (.inr (some 79))), some (.inl p1)]) (st' := []) (w' := (SH, dt)) rfl (z_ne (a := p1) (by first | exact bnd h_p1 (by decide) (by decide) | exact ⟨by fail, by fail⟩)) (fun c3 => ?_) (fun c3 => ?_)
  · skip
    replace c3 := hid c3
    refine go_ifq PM176 (k := 2) (p1 := 23) (p2 := 16) (L' := [some (.inr (.inr (some 79))), some (.inl p1)]) (st' := []) (w' := (SH, dt)) rfl (c_ne (a := p1) (b := 1) (by first | exact bnd h_p1 (by decide) (by decide) | exact ⟨by fail, by fail⟩) ⟨by decide, by decide⟩) (fun c4 => ?_) (fun c4 => ?_)
    · skip
      replace c4 := hid c4
      refine go_retq PM176 (k := 1) (r := some (.inl (-1))) (w1 := (SH, dt)) rfl ?_
      exact ⟨rfl, ⟨_, rfl, ⟨by decide, by decide⟩, by first | exact True.intro | with_reducible assumption | exact unhid (by with_reducible assumption) | rfl | (have z0_ := unhid c3; have z1_ := unhid c4; omega) | trivial⟩⟩
    · skip
      refine go_retq PM176 (k := 3) (r := some (.inl (dt 79 21))) (w1 := (SH, dt)) rfl ?_
      exact ⟨rfl, ⟨_, rfl, (by first | exact bnd r2 (by decide) (by decide) | exact ⟨by fail, by fail⟩), by first | exact True.intro | with_reducible assumption | exact unhid (by with_reducible assumption) | rfl | omega | trivial⟩⟩
  · skip
    refine go_retq PM176 (k := 3) (r := some (.inl (dt 79 19))) (w1 := (SH, dt)) rfl ?_
    exact ⟨rfl, ⟨_, rfl, (by first | exact bnd r1 (by decide) (by decide) | exact ⟨by fail, by fail⟩), by first | exact True.intro | with_reducible assumption | rfl | omega | trivial⟩⟩
theorem sp_X5_cut_f (L : Nat) (xs : Nat → Int32) (sio : Option Nat) (d : Nat) (dt : Nat → Nat → Int) (hI : InvC dt)  (p1 : Int) (h_p1 : 0 ≤ p1 ∧ p1 ≤ 24) (p2 : Int) (h_p2 : 24 ≤ p2 ∧ p2 ≤ 24)  : GO (am_XX L xs sio) (d + 1) 101 0 [some (.inl p1), some (.inl p2)] [] (SH, dt) (fun r w2 => w2 = (SH, dt) ∧ ((∃ v : Int, r = some (.inl v) ∧ (0 ≤ v ∧ v ≤ 24) ∧ (v = p1)))) := by
  refine go_toq PM101 (k := 3) (pc' := 3) (L' := [some (.inl p1), some (.inl p2)]) (st' := [.inl p1, .inl p2, .inl 0]) (w' := (SH, dt)) rfl ?_
  refine go_callq PM101 PM266 (Q' := _) rfl rfl rfl rfl (sp_J9_min_7cf53 L xs sio (d + 0) dt hI  p2 (by first | exact h_p2 | exact bnd h_p2 (by decide) (by decide) | exact ⟨by fail, by fail⟩) p1 (by first | exact h_p1 | exact bnd h_p1 (by decide) (by decide) | exact ⟨by fail, by fail⟩) ) ?_
  rintro _ _ ⟨rfl, h1⟩
  refine ⟨rfl, ?_⟩
  rcases h1 with ⟨v_h1, rfl, h1r, h1⟩
  refine go_callq PM101 PM265 (Q' := _) rfl rfl rfl rfl (sp_J9_max_7cf53 L xs sio (d + 0) dt hI  0 ⟨by decide, by decide⟩ v_h1 (by first | exact bnd h1r (by decide) (by decide) | exact ⟨by fail, by fail⟩) ) ?_
  rintro _ _ ⟨rfl, h2⟩
  refine ⟨rfl, ?_⟩
  rcases h2 with ⟨v_h2, rfl, h2r, h2⟩
  refine go_retq PM101 (k := 0) (r := some (.inl v_h2)) (w1 := (SH, dt)) rfl ?_
  exact ⟨rfl, ⟨_, rfl, (by first | exact bnd h2r (by decide) (by decide) | exact ⟨by omega, by omega⟩), by first | exact True.intro | with_reducible assumption | rfl | omega | trivial⟩⟩
theorem sp_X0_takeScene_f (L : Nat) (xs : Nat → Int32) (sio : Option Nat) (d : Nat) (dt : Nat → Nat → Int) (hI : InvC dt)  (p1 : Int) (h_p1 : 0 ≤ p1 ∧ p1 ≤ 7) (p3 : Int) (h_p3 : 0 ≤ p3 ∧ p3 ≤ 24)  : GO (am_XX L xs sio) (d + 2) 2 0 [some (.inr (.inr (some 1))), some (.inl p1), some (.inr (.inr (some 35))), some (.inl p3)] [] (SH, dt) (fun r w2 => ∃ dt2 : Nat → Nat → Int, w2 = (SH, dt2) ∧ InvC dt2 ∧ Fr [2, 3] dt dt2 ∧ ((r = none ∧ (∀ q : Nat, q < 24 → dt2 2 (24 * p1.toNat + q) = dt 40 q) ∧ (∀ j : Nat, j < 24 * p1.toNat ∨ 24 * p1.toNat + 24 ≤ j → dt2 2 j = dt 2 j) ∧ (dt2 3 p1.toNat = p3) ∧ (∀ j : Nat, ¬ j = p1.toNat → dt2 3 j = dt 3 j)))) := by
  have hF : Fr [2, 3] dt dt := Fr_refl
  refine go_toq PM2 (k := 1) (pc' := 1) (L' := [some (.inr (.inr (some 1))), some (.inl p1), some (.inr (.inr (some 35))), some (.inl p3)]) (st' := [.inl p1]) (w' := (SH, dt)) rfl ?_
  refine go_callq PM2 PM102 (Q' := _) rfl rfl rfl rfl (sp_X5_isScene L xs sio (d + 0) dt hI  p1 (by first | exact h_p1 | exact bnd h_p1 (by decide) (by decide) | exact ⟨by fail, by fail⟩) ) ?_
  rintro _ _ ⟨rfl, h1⟩
  refine ⟨rfl, ?_⟩
  rcases h1 with ⟨rfl, h1⟩ | ⟨rfl, h1⟩
  · skip
    refine go_toq PM2 (k := 10) (pc' := 22) (L' := [some (.inr (.inr (some 1))), some (.inl p1), some (.inr (.inr (some 35))), some (.inl p3)]) (st' := [.inl 24, .inl (p1 * 24), .inr (.inr (some 2)), .inl 0, .inr (.inr (some 40))]) (w' := (SH, dt)) rfl ?_
    have hI2 : InvC (am_cp dt 40 2 0 ((p1 * 24).toNat) 24) := InvC_cp hI (fun _ _ => rfl) (fun _ _ => rfl) (fun _ => rfl)
    have hF3 : Fr [2, 3] dt (am_cp dt 40 2 0 ((p1 * 24).toNat) 24) := Fr_cp hF (by decide)
    refine go_cpyq PM2 (L' := [some (.inr (.inr (some 1))), some (.inl p1), some (.inr (.inr (some 35))), some (.inl p3)]) (st' := []) (w' := (SH, (am_cp dt 40 2 0 ((p1 * 24).toNat) 24))) rfl rfl (s_cpy (n0 := 24) (n1 := 192) rfl rfl ⟨⟨by omega, by omega, by omega⟩, by omega, by omega, by decide⟩) ?_
    refine go_toq PM2 (k := 5) (pc' := 33) (L' := [some (.inr (.inr (some 1))), some (.inl p1), some (.inr (.inr (some 35))), some (.inl p3)]) (st' := [.inl 24, .inl p3, .inl p1, .inr (.inr (some 3))]) (w' := (SH, (am_cp dt 40 2 0 ((p1 * 24).toNat) 24))) rfl ?_
    refine go_callq PM2 PM101 (Q' := _) rfl rfl rfl rfl (sp_X5_cut_f L xs sio (d + 0) (am_cp dt 40 2 0 ((p1 * 24).toNat) 24) hI2  p3 (by first | exact h_p3 | exact bnd h_p3 (by decide) (by decide) | exact ⟨by fail, by fail⟩) 24 ⟨by decide, by decide⟩ ) ?_
    rintro _ _ ⟨rfl, h4⟩
    refine ⟨rfl, ?_⟩
    rcases h4 with ⟨v_h4, rfl, h4r, h4⟩
    have hI5 : InvC (u2 (am_cp dt 40 2 0 ((p1 * 24).toNat) 24) 3 (p1).toNat v_h4) := InvC_u2 hI2 (lo := -2147483648) (hi := 2147483647) rfl rfl rfl (by first | exact bnd1 h4r (by decide) | fail) (by first | exact bnd2 h4r (by decide) | fail)
    have hF6 : Fr [2, 3] dt (u2 (am_cp dt 40 2 0 ((p1 * 24).toNat) 24) 3 (p1).toNat v_h4) := Fr_u2 hF3 (by decide)
    refine go_smpq PM2 (L' := [some (.inr (.inr (some 1))), some (.inl p1), some (.inr (.inr (some 35))), some (.inl p3)]) (st' := []) (w' := (SH, (u2 (am_cp dt 40 2 0 ((p1 * 24).toNat) 24) 3 (p1).toNat v_h4))) rfl rfl (s_iast (n := 8) rfl ⟨by omega, by omega⟩ ⟨by omega, by omega⟩) ?_
    refine go_retq PM2 (k := 0) (r := none) (w1 := (SH, (u2 (am_cp dt 40 2 0 ((p1 * 24).toNat) 24) 3 (p1).toNat v_h4))) rfl ?_
    exact ⟨(u2 (am_cp dt 40 2 0 ((p1 * 24).toNat) 24) 3 (p1).toNat v_h4), rfl, hI5, hF6, ⟨rfl, ⟨by first | (exfalso; fail) | (intro q hq; rw [show 24 * p1.toNat + q = (p1 * 24).toNat + q by first | with_reducible assumption | omega]; exact cp_in hq), by first | (exfalso; fail) | (intro j hj; exact cp_out (by omega)), by first | (exfalso; fail) | (rw [u2_eq]; omega), by first | (exfalso; fail) | (intro j hj; rw [u2_ne (by omega)]; rfl)⟩⟩⟩
  · skip
    refine go_retq PM2 (k := 1) (r := none) (w1 := (SH, dt)) rfl ?_
    exact ⟨dt, rfl, hI, hF, ⟨rfl, ⟨by first | (exfalso; omega) | (intro q hq; rw [show 24 * p1.toNat + q = (p1 * 24).toNat + q by first | with_reducible assumption | fail]; exact cp_in hq), by first | (exfalso; omega) | (intro j hj; exact cp_out (by fail)), by first | (exfalso; omega) | (rw [u2_eq]; fail), by first | (exfalso; omega) | (intro j hj; rw [u2_ne (by fail)]; rfl)⟩⟩⟩
