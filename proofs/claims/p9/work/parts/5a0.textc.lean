theorem sp_X5_fault_f (L : Nat) (xs : Nat → Int32) (sio : Option Nat) (d : Nat) (dt : Nat → Nat → Int) (hI : InvC dt)  (p1 : Int) (h_p1 : (-2147483648) ≤ p1 ∧ p1 ≤ 2147483647)  : GO (am_XX L xs sio) (d) 71 0 [some (.inr (.inr (some 0))), some (.inl p1)] [] (SH, dt) (fun r w2 => w2 = (SH, dt) ∧ ((∃ v : Int, r = some (.inl v) ∧ ((-2147483648) ≤ v ∧ v ≤ 2147483647) ∧ ((p1 = 0 ∧ v = dt 35 2) ∨ (p1 = 1 ∧ v = dt 35 3) ∨ (¬ p1 = 0 ∧ ¬ p1 = 1 ∧ v = -1))))) := by
  have r1 : (-2147483648) ≤ dt 35 2 ∧ dt 35 2 ≤ 2147483647 := InvC_get hI 35 2 rfl rfl
  have r2 : (-2147483648) ≤ dt 35 3 ∧ dt 35 3 ≤ 2147483647 := InvC_get hI 35 3 rfl rfl
  refine go_ifq PM71 (k := 1) (p1 := 14) (p2 := 4) (L' := [some (.inr (.inr (some 0))), some (.inl p1)]) (st' := []) (w' := (SH, dt)) rfl (z_ne (a := p1) (by first | exact bnd h_p1 (by decide) (by decide) | exact ⟨by fail, by fail⟩)) (fun c3 => ?_) (fun c3 => ?_)
  · skip
    replace c3 := hid c3
    refine go_ifq PM71 (k := 2) (p1 := 29) (p2 := 19) (L' := [some (.inr (.inr (some 0))), some (.inl p1)]) (st' := []) (w' := (SH, dt)) rfl (c_ne (a := p1) (b := 1) (by first | exact bnd h_p1 (by decide) (by decide) | exact ⟨by fail, by fail⟩) ⟨by decide, by decide⟩) (fun c4 => ?_) (fun c4 => ?_)
    · skip
      replace c4 := hid c4
      refine go_retq PM71 (k := 1) (r := some (.inl (-1))) (w1 := (SH, dt)) rfl ?_
      exact ⟨rfl, ⟨_, rfl, ⟨by decide, by decide⟩, by first | exact True.intro | with_reducible assumption | exact unhid (by with_reducible assumption) | rfl | (have z0_ := unhid c3; have z1_ := unhid c4; omega) | trivial⟩⟩
    · skip
      refine go_retq PM71 (k := 4) (r := some (.inl (dt 35 3))) (w1 := (SH, dt)) rfl ?_
      exact ⟨rfl, ⟨_, rfl, (by first | exact bnd r2 (by decide) (by decide) | exact ⟨by fail, by fail⟩), by first | exact True.intro | with_reducible assumption | exact unhid (by with_reducible assumption) | rfl | omega | trivial⟩⟩
  · skip
    refine go_retq PM71 (k := 4) (r := some (.inl (dt 35 2))) (w1 := (SH, dt)) rfl ?_
    exact ⟨rfl, ⟨_, rfl, (by first | exact bnd r1 (by decide) (by decide) | exact ⟨by fail, by fail⟩), by first | exact True.intro | with_reducible assumption | rfl | omega | trivial⟩⟩
set_option maxRecDepth 20000 in
theorem sp_X6_fault_f (L : Nat) (xs : Nat → Int32) (sio : Option Nat) (d : Nat) (dt : Nat → Nat → Int) (hI : InvC dt)  (p1 : Int) (h_p1 : (-2147483648) ≤ p1 ∧ p1 ≤ 2147483647)  : GO (am_XX L xs sio) (d) 176 0 [some (.inr (.inr (some 79))), some (.inl p1)] [] (SH, dt) (fun r w2 => w2 = (SH, dt) ∧ ((∃ v : Int, r = some (.inl v) ∧ ((-2147483648) ≤ v ∧ v ≤ 2147483647) ∧ ((p1 = 0 ∧ v = dt 79 19) ∨ (p1 = 1 ∧ v = dt 79 21) ∨ (¬ p1 = 0 ∧ ¬ p1 = 1 ∧ v = -1))))) := by
  have r1 : (-2147483648) ≤ dt 79 19 ∧ dt 79 19 ≤ 2147483647 := InvC_get hI 79 19 rfl rfl
  have r2 : (-2147483648) ≤ dt 79 21 ∧ dt 79 21 ≤ 2147483647 := InvC_get hI 79 21 rfl rfl
  refine go_ifq PM176 (k := 1) (p1 := 11) (p2 := 4) (L' := [some (.inr (.inr (some 79))), some (.inl p1)]) (st' := []) (w' := (SH, dt)) rfl (z_ne (a := p1) (by first | exact bnd h_p1 (by decide) (by decide) | exact ⟨by fail, by fail⟩)) (fun c3 => ?_) (fun c3 => ?_)
  · skip
    replace c3 := hid c3
    refine go_ifq PM176 (k := 2) (p1 := 23) (p2 := 16) (L' := [some (.inr (.inr (some 79))), some (.inl p1)]) (st' := []) (w' := (SH, dt)) rfl (c_ne (a := p1) (b := 1) (by first | exact bnd h_p1 (by decide) (by decide) | exact ⟨by fail, by fail⟩) ⟨by decide, by decide⟩) (fun c4 => ?_) (fun c4 => ?_)
    · skip
      replace c4 := hid c4
      refine go_retq PM176 (k := 1) (r := some (.inl (-1))) (w1 := (SH, dt)) rfl ?_
      exact ⟨rfl, ⟨_, rfl, ⟨by decide, by decide⟩, by first | exact True.intro | with_reducible assumption | exact unhid (by with_reducible assumption) | rfl | (have z0_ := unhid c3; have z1_ := unhid c4; omega) | trivial⟩⟩
    · skip
      refine go_retq PM176 (k := 3) (r := some (.inl (dt 79 21))) (w1 := (SH, dt)) rfl ?_
      exact ⟨rfl, ⟨_, rfl, (by first | exact bnd r2 (by decide) (by decide) | exact ⟨by fail, by fail⟩), by first | exact True.intro | with_reducible assumption | exact unhid (by with_reducible assumption) | rfl | omega | trivial⟩⟩
  · skip
    refine go_retq PM176 (k := 3) (r := some (.inl (dt 79 19))) (w1 := (SH, dt)) rfl ?_
    exact ⟨rfl, ⟨_, rfl, (by first | exact bnd r1 (by decide) (by decide) | exact ⟨by fail, by fail⟩), by first | exact True.intro | with_reducible assumption | rfl | omega | trivial⟩⟩
theorem sp_X5_cut_f (L : Nat) (xs : Nat → Int32) (sio : Option Nat) (d : Nat) (dt : Nat → Nat → Int) (hI : InvC dt)  (p1 : Int) (h_p1 : 0 ≤ p1 ∧ p1 ≤ 24) (p2 : Int) (h_p2 : 24 ≤ p2 ∧ p2 ≤ 24)  : GO (am_XX L xs sio) (d + 1) 101 0 [some (.inl p1), some (.inl p2)] [] (SH, dt) (fun r w2 => w2 = (SH, dt) ∧ ((∃ v : Int, r = some (.inl v) ∧ (0 ≤ v ∧ v ≤ 24) ∧ (v = p1)))) := by
  refine go_toq PM101 (k := 3) (pc' := 3) (L' := [some (.inl p1), some (.inl p2)]) (st' := [.inl p1, .inl p2, .inl 0]) (w' := (SH, dt)) rfl ?_
  refine go_callq PM101 PM266 (Q' := _) rfl rfl rfl rfl (sp_J9_min_7cf53 L xs sio (d + 0) dt hI  p2 (by first | exact h_p2 | exact bnd h_p2 (by decide) (by decide) | exact ⟨by fail, by fail⟩) p1 (by first | exact h_p1 | exact bnd h_p1 (by decide) (by decide) | exact ⟨by fail, by fail⟩) ) ?_
  rintro _ _ ⟨rfl, h1⟩
  refine ⟨rfl, ?_⟩
  rcases h1 with ⟨v_h1, rfl, h1r, h1⟩
  refine go_callq PM101 PM265 (Q' := _) rfl rfl rfl rfl (sp_J9_max_7cf53 L xs sio (d + 0) dt hI  0 ⟨by decide, by decide⟩ v_h1 (by first | exact bnd h1r (by decide) (by decide) | exact ⟨by fail, by fail⟩) ) ?_
  rintro _ _ ⟨rfl, h2⟩
  refine ⟨rfl, ?_⟩
  rcases h2 with ⟨v_h2, rfl, h2r, h2⟩
  refine go_retq PM101 (k := 0) (r := some (.inl v_h2)) (w1 := (SH, dt)) rfl ?_
  exact ⟨rfl, ⟨_, rfl, (by first | exact bnd h2r (by decide) (by decide) | exact ⟨by omega, by omega⟩), by first | exact True.intro | with_reducible assumption | rfl | omega | trivial⟩⟩
theorem sp_X0_takeScene_f (L : Nat) (xs : Nat → Int32) (sio : Option Nat) (d : Nat) (dt : Nat → Nat → Int) (hI : InvC dt)  (p1 : Int) (h_p1 : 0 ≤ p1 ∧ p1 ≤ 7) (p3 : Int) (h_p3 : 0 ≤ p3 ∧ p3 ≤ 24)  : GO (am_XX L xs sio) (d + 2) 2 0 [some (.inr (.inr (some 1))), some (.inl p1), some (.inr (.inr (some 35))), some (.inl p3)] [] (SH, dt) (fun r w2 => ∃ dt2 : Nat → Nat → Int, w2 = (SH, dt2) ∧ InvC dt2 ∧ Fr [2, 3] dt dt2 ∧ ((r = none ∧ (∀ q : Nat, q < 24 → dt2 2 (24 * p1.toNat + q) = dt 40 q) ∧ (∀ j : Nat, j < 24 * p1.toNat ∨ 24 * p1.toNat + 24 ≤ j → dt2 2 j = dt 2 j) ∧ (dt2 3 p1.toNat = p3) ∧ (∀ j : Nat, ¬ j = p1.toNat → dt2 3 j = dt 3 j)))) := by
  have hF : Fr [2, 3] dt dt := Fr_refl
  refine go_toq PM2 (k := 1) (pc' := 1) (L' := [some (.inr (.inr (some 1))), some (.inl p1), some (.inr (.inr (some 35))), some (.inl p3)]) (st' := [.inl p1]) (w' := (SH, dt)) rfl ?_
  refine go_callq PM2 PM102 (Q' := _) rfl rfl rfl rfl (sp_X5_isScene L xs sio (d + 0) dt hI  p1 (by first | exact h_p1 | exact bnd h_p1 (by decide) (by decide) | exact ⟨by fail, by fail⟩) ) ?_
  rintro _ _ ⟨rfl, h1⟩
  refine ⟨rfl, ?_⟩
  rcases h1 with ⟨rfl, h1⟩ | ⟨rfl, h1⟩
  · skip
    refine go_toq PM2 (k := 10) (pc' := 22) (L' := [some (.inr (.inr (some 1))), some (.inl p1), some (.inr (.inr (some 35))), some (.inl p3)]) (st' := [.inl 24, .inl (p1 * 24), .inr (.inr (some 2)), .inl 0, .inr (.inr (some 40))]) (w' := (SH, dt)) rfl ?_
    have hI2 : InvC (am_cp dt 40 2 0 ((p1 * 24).toNat) 24) := InvC_cp hI (fun _ _ => rfl) (fun _ _ => rfl) (fun _ => rfl)
    have hF3 : Fr [2, 3] dt (am_cp dt 40 2 0 ((p1 * 24).toNat) 24) := Fr_cp hF (by decide)
    refine go_cpyq PM2 (L' := [some (.inr (.inr (some 1))), some (.inl p1), some (.inr (.inr (some 35))), some (.inl p3)]) (st' := []) (w' := (SH, (am_cp dt 40 2 0 ((p1 * 24).toNat) 24))) rfl rfl (s_cpy (n0 := 24) (n1 := 192) rfl rfl ⟨⟨by omega, by omega, by omega⟩, by omega, by omega, by decide⟩) ?_
    refine go_toq PM2 (k := 5) (pc' := 33) (L' := [some (.inr (.inr (some 1))), some (.inl p1), some (.inr (.inr (some 35))), some (.inl p3)]) (st' := [.inl 24, .inl p3, .inl p1, .inr (.inr (some 3))]) (w' := (SH, (am_cp dt 40 2 0 ((p1 * 24).toNat) 24))) rfl ?_
    refine go_callq PM2 PM101 (Q' := _) rfl rfl rfl rfl (sp_X5_cut_f L xs sio (d + 0) (am_cp dt 40 2 0 ((p1 * 24).toNat) 24) hI2  p3 (by first | exact h_p3 | exact bnd h_p3 (by decide) (by decide) | exact ⟨by fail, by fail⟩) 24 ⟨by decide, by decide⟩ ) ?_
    rintro _ _ ⟨rfl, h4⟩
    refine ⟨rfl, ?_⟩
    rcases h4 with ⟨v_h4, rfl, h4r, h4⟩
    have hI5 : InvC (u2 (am_cp dt 40 2 0 ((p1 * 24).toNat) 24) 3 (p1).toNat v_h4) := InvC_u2 hI2 (lo := -2147483648) (hi := 2147483647) rfl rfl rfl (by first | exact bnd1 h4r (by decide) | fail) (by first | exact bnd2 h4r (by decide) | fail)
    have hF6 : Fr [2, 3] dt (u2 (am_cp dt 40 2 0 ((p1 * 24).toNat) 24) 3 (p1).toNat v_h4) := Fr_u2 hF3 (by decide)
    refine go_smpq PM2 (L' := [some (.inr (.inr (some 1))), some (.inl p1), some (.inr (.inr (some 35))), some (.inl p3)]) (st' := []) (w' := (SH, (u2 (am_cp dt 40 2 0 ((p1 * 24).toNat) 24) 3 (p1).toNat v_h4))) rfl rfl (s_iast (n := 8) rfl ⟨by omega, by omega⟩ ⟨by omega, by omega⟩) ?_
    refine go_retq PM2 (k := 0) (r := none) (w1 := (SH, (u2 (am_cp dt 40 2 0 ((p1 * 24).toNat) 24) 3 (p1).toNat v_h4))) rfl ?_
    exact ⟨(u2 (am_cp dt 40 2 0 ((p1 * 24).toNat) 24) 3 (p1).toNat v_h4), rfl, hI5, hF6, ⟨rfl, ⟨by first | (exfalso; fail) | (intro q hq; rw [show 24 * p1.toNat + q = (p1 * 24).toNat + q by first | with_reducible assumption | omega]; exact cp_in hq), by first | (exfalso; fail) | (intro j hj; exact cp_out (by omega)), by first | (exfalso; fail) | (rw [u2_eq]; omega), by first | (exfalso; fail) | (intro j hj; rw [u2_ne (by omega)]; rfl)⟩⟩⟩
  · skip
    refine go_retq PM2 (k := 1) (r := none) (w1 := (SH, dt)) rfl ?_
    exact ⟨dt, rfl, hI, hF, ⟨rfl, ⟨by first | (exfalso; omega) | (intro q hq; rw [show 24 * p1.toNat + q = (p1 * 24).toNat + q by first | with_reducible assumption | fail]; exact cp_in hq), by first | (exfalso; omega) | (intro j hj; exact cp_out (by fail)), by first | (exfalso; omega) | (rw [u2_eq]; fail), by first | (exfalso; omega) | (intro j hj; rw [u2_ne (by fail)]; rfl)⟩⟩⟩
set_option maxHeartbeats 1500000 in
theorem sp_X5_text_f (L : Nat) (xs : Nat → Int32) (sio : Option Nat) (d : Nat) (dt : Nat → Nat → Int) (hI : InvC dt)  (p1 : Int) (h_p1 : (-2147483648) ≤ p1 ∧ p1 ≤ 2147483647) (p2 : Int) (h_p2 : (-2147483648) ≤ p2 ∧ p2 ≤ 2147483647)  : GO (am_XX L xs sio) (d + 23) 70 0 [some (.inr (.inr (some 0))), some (.inl p1), some (.inl p2), none, none, none] [] (SH, dt) (fun r w2 => ∃ dt2 : Nat → Nat → Int, w2 = (SH, dt2) ∧ InvC dt2 ∧ Fr [2, 3, 4, 5, 6, 9, 35, 37, 38, 39, 40, 41, 42, 44, 45, 46, 47, 48, 49, 50, 51, 52, 53, 54, 55, 56] dt dt2 ∧ ((∃ v : Int, r = some (.inl v) ∧ ((-1) ≤ v ∧ v ≤ 24) ∧ (dt2 35 1 = 0) ∧ (TRS p1 p2 (mB (fun j => am_and (dt 36 j) 255) (dt 35 1)) (dt 35 1).toNat v (dt2 35 2) (dt2 35 3)) ∧ (TSA p1 p2 (mB (fun j => am_and (dt 36 j) 255) (dt 35 1)) (dt 35 1).toNat (dt2 35 2) v (dt 2) (dt 3) (dt2 2) (dt2 3))))) := by
  have hF : Fr [2, 3, 4, 5, 6, 9, 35, 37, 38, 39, 40, 41, 42, 44, 45, 46, 47, 48, 49, 50, 51, 52, 53, 54, 55, 56] dt dt := Fr_refl
  have r1 : 0 ≤ dt 35 1 ∧ dt 35 1 ≤ 500 := InvC_get hI 35 1 rfl rfl
  refine go_ifq PM70 (k := 1) (p1 := 18) (p2 := 4) (L' := [some (.inr (.inr (some 0))), some (.inl p1), some (.inl p2), none, none, none]) (st' := []) (w' := (SH, dt)) rfl (z_ne (a := p1) (by first | exact bnd h_p1 (by decide) (by decide) | exact ⟨by omega, by omega⟩)) (fun c2 => ?_) (fun c2 => ?_)
  · skip
    replace c2 := hid c2
    refine go_ifq PM70 (k := 4) (p1 := 38) (p2 := 25) (L' := [some (.inr (.inr (some 0))), some (.inl p1), some (.inl p2), some (.inl 0), none, none]) (st' := []) (w' := (SH, dt)) rfl (c_ne (a := p1) (b := 1) (by first | exact bnd h_p1 (by decide) (by decide) | exact ⟨by (first | omega | (have z0_ := unhid c2; omega)), by (first | omega | (have z0_ := unhid c2; omega))⟩) ⟨by decide, by decide⟩) (fun c3 => ?_) (fun c3 => ?_)
    · skip
      replace c3 := hid c3
      refine go_toq PM70 (k := 7) (pc' := 56) (L' := [some (.inr (.inr (some 0))), some (.inl p1), some (.inl p2), some (.inl 0), some (.inl 0), none]) (st' := [.inr (.inr (some 1001)), .inr (.inr (some 35))]) (w' := (SH, dt)) rfl ?_
      refine go_callq PM70 PM9 (Q' := _) rfl rfl rfl rfl (sp_X1_start_1f L xs sio (d + 15) dt hI   ) ?_
      rintro _ _ ⟨dt5, rfl, hI6, hF7, h4⟩
      refine ⟨rfl, ?_⟩
      have hF8 : Fr [2, 3, 4, 5, 6, 9, 35, 37, 38, 39, 40, 41, 42, 44, 45, 46, 47, 48, 49, 50, 51, 52, 53, 54, 55, 56] dt dt5 := Fr_tr hF hF7 (by decide)
      rcases h4 with ⟨rfl, h4⟩
      obtain ⟨h4_0, h4_1, h4_2, h4_3, h4_4, h4_5, h4_6⟩ := h4
      have tk9 := TOK_c h4_6
      have b710 : 0 ≤ dt5 35 7 ∧ dt5 35 7 ≤ 501 := InvC_get hI6 35 7 rfl rfl
      have c11 : ∀ j : Nat, dt5 2 j = dt 2 j := fun j => (hF7 2 (by decide) j).trans ((fun _ => rfl) j)
      have c12 : ∀ j : Nat, dt5 3 j = dt 3 j := fun j => (hF7 3 (by decide) j).trans ((fun _ => rfl) j)
      refine go_retq PM70 (k := 5) (r := some (.inl (-1))) (w1 := (SH, dt5)) rfl ?_
      exact ⟨dt5, rfl, hI6, hF8, ⟨_, rfl, ⟨by decide, by decide⟩, ⟨by first | exact True.intro | with_reducible assumption | exact unhid (by with_reducible assumption) | rfl | (first | omega | (have z0_ := unhid c2; have z1_ := unhid c3; omega)) | trivial, by first | exact TRS_y (by unfold okT; (first | omega | (have z0_ := unhid c2; have z1_ := unhid c3; omega))) rfl (by (first | omega | (have z0_ := unhid c2; have z1_ := unhid c3; omega))) (by (first | omega | (have z0_ := unhid c2; have z1_ := unhid c3; omega))) | exact TRS_t hI (by (first | omega | (have z0_ := unhid c2; have z1_ := unhid c3; omega))) (by unfold okT; (first | omega | (have z0_ := unhid c2; have z1_ := unhid c3; omega))) (by (first | omega | (have z0_ := unhid c2; have z1_ := unhid c3; omega))) (by (first | omega | (have z0_ := unhid c2; have z1_ := unhid c3; omega))) (by (first | omega | (have z0_ := unhid c2; have z1_ := unhid c3; omega))), by first | exact TSA_n (by (first | omega | (have z0_ := unhid c2; have z1_ := unhid c3; omega))) c11 c12 | exact TSA_v $tsa (by (first | omega | (have z0_ := unhid c2; have z1_ := unhid c3; omega))) (by (first | omega | (have z0_ := unhid c2; have z1_ := unhid c3; omega)))⟩⟩⟩
    · skip
      refine go_toq PM70 (k := 3) (pc' := 28) (L' := [some (.inr (.inr (some 0))), some (.inl p1), some (.inl p2), some (.inl 0), none, none]) (st' := [.inl 3, .inl 0, .inl p2]) (w' := (SH, dt)) rfl ?_
      refine go_callq PM70 PM100 (Q' := _) rfl rfl rfl rfl (sp_X5_within L xs sio (d + 22) dt hI  p2 (by first | exact h_p2 | exact bnd h_p2 (by decide) (by decide) | exact ⟨by (first | omega | (have z0_ := unhid c2; omega)), by (first | omega | (have z0_ := unhid c2; omega))⟩) 0 ⟨by decide, by decide⟩ 3 ⟨by decide, by decide⟩ ) ?_
      rintro _ _ ⟨rfl, h13⟩
      refine ⟨rfl, ?_⟩
      rcases h13 with ⟨rfl, h13⟩ | ⟨rfl, h13⟩
      · skip
        refine go_toq PM70 (k := 9) (pc' := 56) (L' := [some (.inr (.inr (some 0))), some (.inl p1), some (.inl p2), some (.inl 0), some (.inl 1), none]) (st' := [.inr (.inr (some 1001)), .inr (.inr (some 35))]) (w' := (SH, dt)) rfl ?_
        refine go_callq PM70 PM9 (Q' := _) rfl rfl rfl rfl (sp_X1_start_1f L xs sio (d + 15) dt hI   ) ?_
        rintro _ _ ⟨dt15, rfl, hI16, hF17, h14⟩
        refine ⟨rfl, ?_⟩
        have hF18 : Fr [2, 3, 4, 5, 6, 9, 35, 37, 38, 39, 40, 41, 42, 44, 45, 46, 47, 48, 49, 50, 51, 52, 53, 54, 55, 56] dt dt15 := Fr_tr hF hF17 (by decide)
        rcases h14 with ⟨rfl, h14⟩
        obtain ⟨h14_0, h14_1, h14_2, h14_3, h14_4, h14_5, h14_6⟩ := h14
        have tk19 := TOK_c h14_6
        have b720 : 0 ≤ dt15 35 7 ∧ dt15 35 7 ≤ 501 := InvC_get hI16 35 7 rfl rfl
        have c21 : ∀ j : Nat, dt15 2 j = dt 2 j := fun j => (hF17 2 (by decide) j).trans ((fun _ => rfl) j)
        have c22 : ∀ j : Nat, dt15 3 j = dt 3 j := fun j => (hF17 3 (by decide) j).trans ((fun _ => rfl) j)
        refine go_toq PM70 (k := 8) (pc' := 88) (L' := [some (.inr (.inr (some 0))), some (.inl p1), some (.inl p2), some (.inl 0), some (.inl 1), none]) (st' := [.inr (.inr (some 35))]) (w' := (SH, dt15)) rfl ?_
        refine go_callq PM70 PM28 (Q' := _) rfl rfl rfl rfl (sp_X1_readLaw_f L xs sio (d + 0) dt15 hI16 (KF 1 (mB (fun j => am_and (dt 36 j) 255) (dt 35 1)) (dt 35 1).toNat) (VF (mB (fun j => am_and (dt 36 j) 255) (dt 35 1)) (dt 35 1).toNat) (SF (mB (fun j => am_and (dt 36 j) 255) (dt 35 1)) (dt 35 1).toNat) (dt15 35 7 - 1).toNat tk19.2 (by (first | omega | (have z0_ := unhid c2; omega)))  (by first | exact True.intro | with_reducible assumption | exact unhid (by with_reducible assumption) | rfl | (first | omega | (have z0_ := unhid c2; omega)) | trivial | exact tk19.1) (by first | exact True.intro | with_reducible assumption | exact unhid (by with_reducible assumption) | rfl | (first | omega | (have z0_ := unhid c2; omega)) | trivial | exact tk19.1) (by first | exact True.intro | with_reducible assumption | exact unhid (by with_reducible assumption) | rfl | (first | omega | (have z0_ := unhid c2; omega)) | trivial | exact tk19.1) (by first | exact True.intro | with_reducible assumption | exact unhid (by with_reducible assumption) | rfl | (first | omega | (have z0_ := unhid c2; omega)) | trivial | exact tk19.1) (by first | exact True.intro | with_reducible assumption | exact unhid (by with_reducible assumption) | rfl | (first | omega | (have z0_ := unhid c2; omega)) | trivial | exact tk19.1) (by first | exact True.intro | with_reducible assumption | exact unhid (by with_reducible assumption) | rfl | (first | omega | (have z0_ := unhid c2; omega)) | trivial | exact tk19.1)) ?_
        rintro _ _ ⟨dt24, rfl, hI25, hF26, h23⟩
        refine ⟨rfl, ?_⟩
        have hF27 : Fr [2, 3, 4, 5, 6, 9, 35, 37, 38, 39, 40, 41, 42, 44, 45, 46, 47, 48, 49, 50, 51, 52, 53, 54, 55, 56] dt dt24 := Fr_tr hF18 hF26 (by decide)
        rcases h23 with ⟨v_h23, rfl, h23r, h23⟩
        obtain ⟨h23_0, h23_1, h23_2, h23_3⟩ := h23
        have c28 : ∀ j : Nat, dt24 2 j = dt 2 j := fun j => (hF26 2 (by decide) j).trans (c21 j)
        have c29 : ∀ j : Nat, dt24 3 j = dt 3 j := fun j => (hF26 3 (by decide) j).trans (c22 j)
        have r30 : (-2147483648) ≤ dt24 35 2 ∧ dt24 35 2 ≤ 2147483647 := InvC_get hI25 35 2 rfl rfl
        refine go_ifq PM70 (k := 4) (p1 := 105) (p2 := 103) (L' := [some (.inr (.inr (some 0))), some (.inl p1), some (.inl p2), some (.inl 0), some (.inl 1), some (.inl v_h23)]) (st' := []) (w' := (SH, dt24)) rfl (z_eq (a := dt24 35 2) (by first | exact bnd r30 (by decide) (by decide) | exact ⟨by (first | omega | (have z0_ := unhid c2; omega)), by (first | omega | (have z0_ := unhid c2; omega))⟩)) (fun c31 => ?_) (fun c31 => ?_)
        · skip
          refine go_toq PM70 (k := 8) (pc' := 142) (L' := [some (.inr (.inr (some 0))), some (.inl p1), some (.inl p2), some (.inl 0), some (.inl 1), some (.inl v_h23)]) (st' := [.inl v_h23, .inr (.inr (some 35)), .inl p2, .inr (.inr (some 1))]) (w' := (SH, dt24)) rfl ?_
          refine go_callq PM70 PM3 (Q' := _) rfl rfl rfl rfl (sp_X0_takeLaw L xs sio (d + 20) dt24 hI25  p2 (by first | exact h_p2 | exact bnd h_p2 (by decide) (by decide) | exact ⟨by (first | omega | (have z0_ := unhid c2; omega)), by (first | omega | (have z0_ := unhid c2; omega))⟩) v_h23 (by first | exact bnd h23r (by decide) (by decide) | exact ⟨by (first | omega | (have z0_ := unhid c2; omega)), by (first | omega | (have z0_ := unhid c2; omega))⟩) ) ?_
          rintro _ _ ⟨dt33, rfl, hI34, hF35, h32⟩
          refine ⟨rfl, ?_⟩
          have hF36 : Fr [2, 3, 4, 5, 6, 9, 35, 37, 38, 39, 40, 41, 42, 44, 45, 46, 47, 48, 49, 50, 51, 52, 53, 54, 55, 56] dt dt33 := Fr_tr hF27 hF35 (by decide)
          have w37 : dt33 35 1 = dt24 35 1 := hF35 35 (by decide) 1
          have w38 : dt33 35 2 = dt24 35 2 := hF35 35 (by decide) 2
          have w39 : dt33 35 3 = dt24 35 3 := hF35 35 (by decide) 3
          rcases h32 with ⟨rfl, h32⟩
          have c40 : ∀ j : Nat, dt33 2 j = dt 2 j := fun j => (hF35 2 (by decide) j).trans (c28 j)
          have c41 : ∀ j : Nat, dt33 3 j = dt 3 j := fun j => (hF35 3 (by decide) j).trans (c29 j)
          refine go_retq PM70 (k := 1) (r := some (.inl v_h23)) (w1 := (SH, dt33)) rfl ?_
          exact ⟨dt33, rfl, hI34, hF36, ⟨_, rfl, (by first | exact bnd h23r (by decide) (by decide) | exact ⟨by (first | omega | (have z0_ := unhid c2; omega)), by (first | omega | (have z0_ := unhid c2; omega))⟩), ⟨by first | exact True.intro | with_reducible assumption | exact unhid (by with_reducible assumption) | rfl | (first | omega | (have z0_ := unhid c2; omega)) | trivial, by first | exact TRS_y (by unfold okT; (first | omega | (have z0_ := unhid c2; omega))) rfl (by (first | omega | (have z0_ := unhid c2; omega))) (by (first | omega | (have z0_ := unhid c2; omega))) | exact TRS_t h23_0 (by (first | omega | (have z0_ := unhid c2; omega))) (by unfold okT; (first | omega | (have z0_ := unhid c2; omega))) (by (first | omega | (have z0_ := unhid c2; omega))) (by (first | omega | (have z0_ := unhid c2; omega))) (by (first | omega | (have z0_ := unhid c2; omega))), by first | exact TSA_n (by (first | omega | (have z0_ := unhid c2; omega))) c40 c41 | exact TSA_v $tsa (by (first | omega | (have z0_ := unhid c2; omega))) (by (first | omega | (have z0_ := unhid c2; omega)))⟩⟩⟩
        · skip
          replace c31 := hid c31
          refine go_retq PM70 (k := 1) (r := some (.inl (-1))) (w1 := (SH, dt24)) rfl ?_
          exact ⟨dt24, rfl, hI25, hF27, ⟨_, rfl, ⟨by decide, by decide⟩, ⟨by first | exact True.intro | with_reducible assumption | exact unhid (by with_reducible assumption) | rfl | (first | omega | (have z0_ := unhid c2; have z1_ := unhid c31; omega)) | trivial, by first | exact TRS_y (by unfold okT; (first | omega | (have z0_ := unhid c2; have z1_ := unhid c31; omega))) rfl (by (first | omega | (have z0_ := unhid c2; have z1_ := unhid c31; omega))) (by (first | omega | (have z0_ := unhid c2; have z1_ := unhid c31; omega))) | exact TRS_t h23_0 (by (first | omega | (have z0_ := unhid c2; have z1_ := unhid c31; omega))) (by unfold okT; (first | omega | (have z0_ := unhid c2; have z1_ := unhid c31; omega))) (by (first | omega | (have z0_ := unhid c2; have z1_ := unhid c31; omega))) (by (first | omega | (have z0_ := unhid c2; have z1_ := unhid c31; omega))) (by (first | omega | (have z0_ := unhid c2; have z1_ := unhid c31; omega))), by first | exact TSA_n (by (first | omega | (have z0_ := unhid c2; have z1_ := unhid c31; omega))) c28 c29 | exact TSA_v $tsa (by (first | omega | (have z0_ := unhid c2; have z1_ := unhid c31; omega))) (by (first | omega | (have z0_ := unhid c2; have z1_ := unhid c31; omega)))⟩⟩⟩
      · skip
        refine go_toq PM70 (k := 8) (pc' := 56) (L' := [some (.inr (.inr (some 0))), some (.inl p1), some (.inl p2), some (.inl 0), some (.inl 0), none]) (st' := [.inr (.inr (some 1001)), .inr (.inr (some 35))]) (w' := (SH, dt)) rfl ?_
        refine go_callq PM70 PM9 (Q' := _) rfl rfl rfl rfl (sp_X1_start_1f L xs sio (d + 15) dt hI   ) ?_
        rintro _ _ ⟨dt43, rfl, hI44, hF45, h42⟩
        refine ⟨rfl, ?_⟩
        have hF46 : Fr [2, 3, 4, 5, 6, 9, 35, 37, 38, 39, 40, 41, 42, 44, 45, 46, 47, 48, 49, 50, 51, 52, 53, 54, 55, 56] dt dt43 := Fr_tr hF hF45 (by decide)
        rcases h42 with ⟨rfl, h42⟩
        obtain ⟨h42_0, h42_1, h42_2, h42_3, h42_4, h42_5, h42_6⟩ := h42
        have tk47 := TOK_c h42_6
        have b748 : 0 ≤ dt43 35 7 ∧ dt43 35 7 ≤ 501 := InvC_get hI44 35 7 rfl rfl
        have c49 : ∀ j : Nat, dt43 2 j = dt 2 j := fun j => (hF45 2 (by decide) j).trans ((fun _ => rfl) j)
        have c50 : ∀ j : Nat, dt43 3 j = dt 3 j := fun j => (hF45 3 (by decide) j).trans ((fun _ => rfl) j)
        refine go_retq PM70 (k := 5) (r := some (.inl (-1))) (w1 := (SH, dt43)) rfl ?_
        exact ⟨dt43, rfl, hI44, hF46, ⟨_, rfl, ⟨by decide, by decide⟩, ⟨by first | exact True.intro | with_reducible assumption | exact unhid (by with_reducible assumption) | rfl | (first | omega | (have z0_ := unhid c2; omega)) | trivial, by first | exact TRS_y (by unfold okT; (first | omega | (have z0_ := unhid c2; omega))) rfl (by (first | omega | (have z0_ := unhid c2; omega))) (by (first | omega | (have z0_ := unhid c2; omega))) | exact TRS_t hI (by (first | omega | (have z0_ := unhid c2; omega))) (by unfold okT; (first | omega | (have z0_ := unhid c2; omega))) (by (first | omega | (have z0_ := unhid c2; omega))) (by (first | omega | (have z0_ := unhid c2; omega))) (by (first | omega | (have z0_ := unhid c2; omega))), by first | exact TSA_n (by (first | omega | (have z0_ := unhid c2; omega))) c49 c50 | exact TSA_v $tsa (by (first | omega | (have z0_ := unhid c2; omega))) (by (first | omega | (have z0_ := unhid c2; omega)))⟩⟩⟩
  · skip
    refine go_toq PM70 (k := 3) (pc' := 8) (L' := [some (.inr (.inr (some 0))), some (.inl p1), some (.inl p2), none, none, none]) (st' := [.inl 7, .inl 0, .inl p2]) (w' := (SH, dt)) rfl ?_
    refine go_callq PM70 PM100 (Q' := _) rfl rfl rfl rfl (sp_X5_within L xs sio (d + 22) dt hI  p2 (by first | exact h_p2 | exact bnd h_p2 (by decide) (by decide) | exact ⟨by omega, by omega⟩) 0 ⟨by decide, by decide⟩ 7 ⟨by decide, by decide⟩ ) ?_
    rintro _ _ ⟨rfl, h51⟩
    refine ⟨rfl, ?_⟩
    rcases h51 with ⟨rfl, h51⟩ | ⟨rfl, h51⟩
    · skip
      refine go_ifq PM70 (k := 6) (p1 := 38) (p2 := 25) (L' := [some (.inr (.inr (some 0))), some (.inl p1), some (.inl p2), some (.inl 1), none, none]) (st' := []) (w' := (SH, dt)) rfl (c_ne (a := p1) (b := 1) (by first | exact bnd h_p1 (by decide) (by decide) | exact ⟨by omega, by omega⟩) ⟨by decide, by decide⟩) (fun c52 => ?_) (fun c52 => ?_)
      · skip
        replace c52 := hid c52
        refine go_toq PM70 (k := 8) (pc' := 56) (L' := [some (.inr (.inr (some 0))), some (.inl p1), some (.inl p2), some (.inl 1), some (.inl 0), none]) (st' := [.inr (.inr (some 1000)), .inr (.inr (some 35))]) (w' := (SH, dt)) rfl ?_
        refine go_callq PM70 PM9 (Q' := _) rfl rfl rfl rfl (sp_X1_start_0f L xs sio (d + 15) dt hI   ) ?_
        rintro _ _ ⟨dt54, rfl, hI55, hF56, h53⟩
        refine ⟨rfl, ?_⟩
        have hF57 : Fr [2, 3, 4, 5, 6, 9, 35, 37, 38, 39, 40, 41, 42, 44, 45, 46, 47, 48, 49, 50, 51, 52, 53, 54, 55, 56] dt dt54 := Fr_tr hF hF56 (by decide)
        rcases h53 with ⟨rfl, h53⟩
        obtain ⟨h53_0, h53_1, h53_2, h53_3, h53_4, h53_5, h53_6⟩ := h53
        have tk58 := TOK_c h53_6
        have b759 : 0 ≤ dt54 35 7 ∧ dt54 35 7 ≤ 501 := InvC_get hI55 35 7 rfl rfl
        have c60 : ∀ j : Nat, dt54 2 j = dt 2 j := fun j => (hF56 2 (by decide) j).trans ((fun _ => rfl) j)
        have c61 : ∀ j : Nat, dt54 3 j = dt 3 j := fun j => (hF56 3 (by decide) j).trans ((fun _ => rfl) j)
        refine go_toq PM70 (k := 6) (pc' := 78) (L' := [some (.inr (.inr (some 0))), some (.inl p1), some (.inl p2), some (.inl 1), some (.inl 0), none]) (st' := [.inr (.inr (some 35))]) (w' := (SH, dt54)) rfl ?_
        refine go_callq PM70 PM25 (Q' := _) rfl rfl rfl rfl (sp_X1_readScene_f L xs sio (d + 18) dt54 hI55 (KF 0 (mB (fun j => am_and (dt 36 j) 255) (dt 35 1)) (dt 35 1).toNat) (VF (mB (fun j => am_and (dt 36 j) 255) (dt 35 1)) (dt 35 1).toNat) (SF (mB (fun j => am_and (dt 36 j) 255) (dt 35 1)) (dt 35 1).toNat) (dt54 35 7 - 1).toNat tk58.2 (by (first | omega | (have z0_ := unhid c52; omega)))  (by first | exact True.intro | with_reducible assumption | exact unhid (by with_reducible assumption) | rfl | (first | omega | (have z0_ := unhid c52; omega)) | trivial | exact tk58.1) (by first | exact True.intro | with_reducible assumption | exact unhid (by with_reducible assumption) | rfl | (first | omega | (have z0_ := unhid c52; omega)) | trivial | exact tk58.1) (by first | exact True.intro | with_reducible assumption | exact unhid (by with_reducible assumption) | rfl | (first | omega | (have z0_ := unhid c52; omega)) | trivial | exact tk58.1) (by first | exact True.intro | with_reducible assumption | exact unhid (by with_reducible assumption) | rfl | (first | omega | (have z0_ := unhid c52; omega)) | trivial | exact tk58.1) (by first | exact True.intro | with_reducible assumption | exact unhid (by with_reducible assumption) | rfl | (first | omega | (have z0_ := unhid c52; omega)) | trivial | exact tk58.1) (by first | exact True.intro | with_reducible assumption | exact unhid (by with_reducible assumption) | rfl | (first | omega | (have z0_ := unhid c52; omega)) | trivial | exact tk58.1)) ?_
        rintro _ _ ⟨dt63, rfl, hI64, hF65, h62⟩
        refine ⟨rfl, ?_⟩
        have hF66 : Fr [2, 3, 4, 5, 6, 9, 35, 37, 38, 39, 40, 41, 42, 44, 45, 46, 47, 48, 49, 50, 51, 52, 53, 54, 55, 56] dt dt63 := Fr_tr hF57 hF65 (by decide)
        rcases h62 with ⟨v_h62, rfl, h62r, h62⟩
        obtain ⟨h62_0, h62_1, h62_2, h62_3, h62_4⟩ := h62
        replace h62_2 := hid h62_2
        have c67 : ∀ j : Nat, dt63 2 j = dt 2 j := fun j => (hF65 2 (by decide) j).trans (c60 j)
        have c68 : ∀ j : Nat, dt63 3 j = dt 3 j := fun j => (hF65 3 (by decide) j).trans (c61 j)
        have r69 : (-2147483648) ≤ dt63 35 2 ∧ dt63 35 2 ≤ 2147483647 := InvC_get hI64 35 2 rfl rfl
        refine go_ifq PM70 (k := 5) (p1 := 105) (p2 := 103) (L' := [some (.inr (.inr (some 0))), some (.inl p1), some (.inl p2), some (.inl 1), some (.inl 0), some (.inl v_h62)]) (st' := []) (w' := (SH, dt63)) rfl (z_eq (a := dt63 35 2) (by first | exact bnd r69 (by decide) (by decide) | exact ⟨by (first | omega | (have z0_ := unhid c52; omega)), by (first | omega | (have z0_ := unhid c52; omega))⟩)) (fun c70 => ?_) (fun c70 => ?_)
        · skip
          refine go_toq PM70 (k := 8) (pc' := 120) (L' := [some (.inr (.inr (some 0))), some (.inl p1), some (.inl p2), some (.inl 1), some (.inl 0), some (.inl v_h62)]) (st' := [.inl v_h62, .inr (.inr (some 35)), .inl p2, .inr (.inr (some 1))]) (w' := (SH, dt63)) rfl ?_
          refine go_callq PM70 PM2 (Q' := _) rfl rfl rfl rfl (sp_X0_takeScene_f L xs sio (d + 20) dt63 hI64  p2 (by first | exact h_p2 | exact bnd h_p2 (by decide) (by decide) | exact ⟨by (first | omega | (have z0_ := unhid c52; omega)), by (first | omega | (have z0_ := unhid c52; omega))⟩) v_h62 (by first | exact bnd h62r (by decide) (by decide) | exact ⟨by (first | omega | (have z0_ := unhid c52; omega)), by (first | omega | (have z0_ := unhid c52; omega))⟩) ) ?_
          rintro _ _ ⟨dt72, rfl, hI73, hF74, h71⟩
          refine ⟨rfl, ?_⟩
          have hF75 : Fr [2, 3, 4, 5, 6, 9, 35, 37, 38, 39, 40, 41, 42, 44, 45, 46, 47, 48, 49, 50, 51, 52, 53, 54, 55, 56] dt dt72 := Fr_tr hF66 hF74 (by decide)
          have w76 : dt72 35 1 = dt63 35 1 := hF74 35 (by decide) 1
          have w77 : dt72 35 2 = dt63 35 2 := hF74 35 (by decide) 2
          have w78 : dt72 35 3 = dt63 35 3 := hF74 35 (by decide) 3
          rcases h71 with ⟨rfl, h71⟩
          obtain ⟨h71_0, h71_1, h71_2, h71_3⟩ := h71
          have ts79 : TSA p1 p2 (mB (fun j => am_and (dt 36 j) 255) (dt 35 1)) (dt 35 1).toNat (dt72 35 2) v_h62 (dt 2) (dt 3) (dt72 2) (dt72 3) := TSA_y c67 c68 h71_0 h71_1 h71_2 h71_3 rfl ⟨by (first | omega | (have z0_ := unhid c52; omega)), by (first | omega | (have z0_ := unhid c52; omega))⟩ (h62_2 (by (first | omega | (have z0_ := unhid c52; omega)))) ⟨by (first | omega | (have z0_ := unhid c52; omega)), ⟨by (first | omega | (have z0_ := unhid c52; omega)), by (first | omega | (have z0_ := unhid c52; omega))⟩, by (first | omega | (have z0_ := unhid c52; omega))⟩
          refine go_toq PM70 (k := 2) (pc' := 125) (L' := [some (.inr (.inr (some 0))), some (.inl p1), some (.inl p2), some (.inl 1), some (.inl 0), some (.inl v_h62)]) (st' := [.inl p2, .inr (.inr (some 0))]) (w' := (SH, dt72)) rfl ?_
          refine go_callq PM70 PM115 (Q' := _) rfl rfl rfl rfl (sp_X5_settleAll L xs sio (d + 17) dt72 hI73  p2 (by first | exact h_p2 | exact bnd h_p2 (by decide) (by decide) | exact ⟨by (first | omega | (have z0_ := unhid c52; omega)), by (first | omega | (have z0_ := unhid c52; omega))⟩) ) ?_
          rintro _ _ ⟨dt81, rfl, hI82, hF83, h80⟩
          refine ⟨rfl, ?_⟩
          have hF84 : Fr [2, 3, 4, 5, 6, 9, 35, 37, 38, 39, 40, 41, 42, 44, 45, 46, 47, 48, 49, 50, 51, 52, 53, 54, 55, 56] dt dt81 := Fr_tr hF75 hF83 (by decide)
          have w85 : dt81 35 1 = dt72 35 1 := hF83 35 (by decide) 1
          have w86 : dt81 35 2 = dt72 35 2 := hF83 35 (by decide) 2
          have w87 : dt81 35 3 = dt72 35 3 := hF83 35 (by decide) 3
          rcases h80 with ⟨rfl, h80⟩
          have ts88 := TSA_k ts79 (hF83 2 (by decide)) (hF83 3 (by decide))
          refine go_retq PM70 (k := 2) (r := some (.inl v_h62)) (w1 := (SH, dt81)) rfl ?_
          exact ⟨dt81, rfl, hI82, hF84, ⟨_, rfl, (by first | exact bnd h62r (by decide) (by decide) | exact ⟨by (first | omega | (have z0_ := unhid c52; omega)), by (first | omega | (have z0_ := unhid c52; omega))⟩), ⟨by first | exact True.intro | with_reducible assumption | exact unhid (by with_reducible assumption) | rfl | (first | omega | (have z0_ := unhid c52; omega)) | trivial, by first | exact TRS_y (by unfold okT; (first | omega | (have z0_ := unhid c52; omega))) rfl (by (first | omega | (have z0_ := unhid c52; omega))) (by (first | omega | (have z0_ := unhid c52; omega))) | exact TRS_t h62_0 (by (first | omega | (have z0_ := unhid c52; omega))) (by unfold okT; (first | omega | (have z0_ := unhid c52; omega))) (by (first | omega | (have z0_ := unhid c52; omega))) (by (first | omega | (have z0_ := unhid c52; omega))) (by (first | omega | (have z0_ := unhid c52; omega))), by first | exact TSA_n (by (first | omega | (have z0_ := unhid c52; omega))) c67 c68 | exact TSA_v ts88 (by (first | omega | (have z0_ := unhid c52; omega))) (by (first | omega | (have z0_ := unhid c52; omega)))⟩⟩⟩
        · skip
          replace c70 := hid c70
          refine go_retq PM70 (k := 1) (r := some (.inl (-1))) (w1 := (SH, dt63)) rfl ?_
          exact ⟨dt63, rfl, hI64, hF66, ⟨_, rfl, ⟨by decide, by decide⟩, ⟨by first | exact True.intro | with_reducible assumption | exact unhid (by with_reducible assumption) | rfl | (first | omega | (have z0_ := unhid c52; have z1_ := unhid c70; omega)) | trivial, by first | exact TRS_y (by unfold okT; (first | omega | (have z0_ := unhid c52; have z1_ := unhid c70; omega))) rfl (by (first | omega | (have z0_ := unhid c52; have z1_ := unhid c70; omega))) (by (first | omega | (have z0_ := unhid c52; have z1_ := unhid c70; omega))) | exact TRS_t h62_0 (by (first | omega | (have z0_ := unhid c52; have z1_ := unhid c70; omega))) (by unfold okT; (first | omega | (have z0_ := unhid c52; have z1_ := unhid c70; omega))) (by (first | omega | (have z0_ := unhid c52; have z1_ := unhid c70; omega))) (by (first | omega | (have z0_ := unhid c52; have z1_ := unhid c70; omega))) (by (first | omega | (have z0_ := unhid c52; have z1_ := unhid c70; omega))), by first | exact TSA_n (by (first | omega | (have z0_ := unhid c52; have z1_ := unhid c70; omega))) c67 c68 | exact TSA_v $tsa (by (first | omega | (have z0_ := unhid c52; have z1_ := unhid c70; omega))) (by (first | omega | (have z0_ := unhid c52; have z1_ := unhid c70; omega)))⟩⟩⟩
      · exfalso; omega
    · skip
      refine go_ifq PM70 (k := 5) (p1 := 38) (p2 := 25) (L' := [some (.inr (.inr (some 0))), some (.inl p1), some (.inl p2), some (.inl 0), none, none]) (st' := []) (w' := (SH, dt)) rfl (c_ne (a := p1) (b := 1) (by first | exact bnd h_p1 (by decide) (by decide) | exact ⟨by omega, by omega⟩) ⟨by decide, by decide⟩) (fun c89 => ?_) (fun c89 => ?_)
      · skip
        replace c89 := hid c89
        refine go_toq PM70 (k := 7) (pc' := 56) (L' := [some (.inr (.inr (some 0))), some (.inl p1), some (.inl p2), some (.inl 0), some (.inl 0), none]) (st' := [.inr (.inr (some 1001)), .inr (.inr (some 35))]) (w' := (SH, dt)) rfl ?_
        refine go_callq PM70 PM9 (Q' := _) rfl rfl rfl rfl (sp_X1_start_1f L xs sio (d + 15) dt hI   ) ?_
        rintro _ _ ⟨dt91, rfl, hI92, hF93, h90⟩
        refine ⟨rfl, ?_⟩
        have hF94 : Fr [2, 3, 4, 5, 6, 9, 35, 37, 38, 39, 40, 41, 42, 44, 45, 46, 47, 48, 49, 50, 51, 52, 53, 54, 55, 56] dt dt91 := Fr_tr hF hF93 (by decide)
        rcases h90 with ⟨rfl, h90⟩
        obtain ⟨h90_0, h90_1, h90_2, h90_3, h90_4, h90_5, h90_6⟩ := h90
        have tk95 := TOK_c h90_6
        have b796 : 0 ≤ dt91 35 7 ∧ dt91 35 7 ≤ 501 := InvC_get hI92 35 7 rfl rfl
        have c97 : ∀ j : Nat, dt91 2 j = dt 2 j := fun j => (hF93 2 (by decide) j).trans ((fun _ => rfl) j)
        have c98 : ∀ j : Nat, dt91 3 j = dt 3 j := fun j => (hF93 3 (by decide) j).trans ((fun _ => rfl) j)
        refine go_retq PM70 (k := 5) (r := some (.inl (-1))) (w1 := (SH, dt91)) rfl ?_
        exact ⟨dt91, rfl, hI92, hF94, ⟨_, rfl, ⟨by decide, by decide⟩, ⟨by first | exact True.intro | with_reducible assumption | exact unhid (by with_reducible assumption) | rfl | (first | omega | (have z0_ := unhid c89; omega)) | trivial, by first | exact TRS_y (by unfold okT; (first | omega | (have z0_ := unhid c89; omega))) rfl (by (first | omega | (have z0_ := unhid c89; omega))) (by (first | omega | (have z0_ := unhid c89; omega))) | exact TRS_t hI (by (first | omega | (have z0_ := unhid c89; omega))) (by unfold okT; (first | omega | (have z0_ := unhid c89; omega))) (by (first | omega | (have z0_ := unhid c89; omega))) (by (first | omega | (have z0_ := unhid c89; omega))) (by (first | omega | (have z0_ := unhid c89; omega))), by first | exact TSA_n (by (first | omega | (have z0_ := unhid c89; omega))) c97 c98 | exact TSA_v $tsa (by (first | omega | (have z0_ := unhid c89; omega))) (by (first | omega | (have z0_ := unhid c89; omega)))⟩⟩⟩
      · exfalso; omega
