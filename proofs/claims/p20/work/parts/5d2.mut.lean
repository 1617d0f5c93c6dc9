theorem sp_X2_set_7_0 (L : Nat) (xs : Nat → Int32) (sio : Option Nat) (d : Nat) (dt : Nat → Nat → Int) (hI : InvC dt)  (p2 : Int) (h_p2 : (-2147483648) ≤ p2 ∧ p2 ≤ 2147483647) (h_p0 : 0 < dt 7 3) : GO (am_XX L xs sio) (d) 41 0 [some (.inr (.inr (some 7))), some (.inl 0), some (.inl p2)] [] (SH, dt) (fun r w2 => ∃ dt2 : Nat → Nat → Int, w2 = (SH, dt2) ∧ InvC dt2 ∧ Fr [8] dt dt2 ∧ ((r = none ∧ (∀ j : Nat, ¬ (j : Int) = ((dt 7 3) - 1) * 5 + 0 → dt2 8 j = dt 8 j) ∧ (dt2 8 ((((dt 7 3) - 1) * 5) + 0).toNat = p2)))) := by
  have hF : Fr [8] dt dt := Fr_refl
  have r1 : 0 ≤ dt 7 3 ∧ dt 7 3 ≤ 12 := InvC_get hI 7 3 rfl rfl
  refine go_ifq PM41 (k := 2) (p1 := 34) (p2 := 7) (L' := [some (.inr (.inr (some 7))), some (.inl 0), some (.inl p2)]) (st' := []) (w' := (SH, dt)) rfl (z_le (a := dt 7 3) (by first | exact bnd r1 (by decide) (by decide) | exact ⟨by fail, by fail⟩)) (fun c2 => ?_) (fun c2 => ?_)
  · skip
    refine go_retq PM41 (k := 0) (r := none) (w1 := (SH, dt)) rfl ?_
    exact ⟨dt, rfl, hI, hF, ⟨rfl, ⟨by intro j hj; first | exact u2_ne (by omega) | (exfalso; omega), by first | exact u2_eq | (exfalso; omega)⟩⟩⟩
  · skip
    refine go_toq PM41 (k := 2) (pc' := 9) (L' := [some (.inr (.inr (some 7))), some (.inl 0), some (.inl p2)]) (st' := [.inr (.inr (some 7)), .inl 0]) (w' := (SH, dt)) rfl ?_
    refine go_smpq PM41 (L' := [some (.inr (.inr (some 7))), some (.inl 0), some (.inl p2)]) (st' := [.inl 5, .inl 0]) (w' := (SH, dt)) rfl rfl (s_gfc rfl rfl rfl (hI.2 7 1 rfl)) ?_
    refine go_toq PM41 (k := 8) (pc' := 26) (L' := [some (.inr (.inr (some 7))), some (.inl 0), some (.inl p2)]) (st' := [.inr (.inr (some 7)), .inl ((dt 7 3) - 1), .inr (.inr (some 8))]) (w' := (SH, dt)) rfl ?_
    refine go_smpq PM41 (L' := [some (.inr (.inr (some 7))), some (.inl 0), some (.inl p2)]) (st' := [.inl 5, .inl ((dt 7 3) - 1), .inr (.inr (some 8))]) (w' := (SH, dt)) rfl rfl (s_gfc rfl rfl rfl (hI.2 7 1 rfl)) ?_
    refine go_toq PM41 (k := 4) (pc' := 33) (L' := [some (.inr (.inr (some 7))), some (.inl 0), some (.inl p2)]) (st' := [.inl p2, .inl ((((dt 7 3) - 1) * 5) + 0), .inr (.inr (some 8))]) (w' := (SH, dt)) rfl ?_
    have hI3 : InvC (u2 dt 8 (((((dt 7 3) - 1) * 5) + 0).toNat) p2) := InvC_u2 hI (lo := -2147483648) (hi := 2147483647) rfl rfl rfl (by first | exact bnd1 h_p2 (by decide) | fail) (by first | exact bnd2 h_p2 (by decide) | fail)
    have hF4 : Fr [8] dt (u2 dt 8 (((((dt 7 3) - 1) * 5) + 0).toNat) p2) := Fr_u2 hF (by decide)
    refine go_smpq PM41 (L' := [some (.inr (.inr (some 7))), some (.inl 0), some (.inl p2)]) (st' := []) (w' := (SH, (u2 dt 8 (((((dt 7 3) - 1) * 5) + 0).toNat) p2))) rfl rfl (s_iast (n := 60) rfl ⟨by omega, by omega⟩ (by first | exact bnd h_p2 (by decide) (by decide) | exact ⟨by fail, by fail⟩)) ?_
    refine go_retq PM41 (k := 0) (r := none) (w1 := (SH, (u2 dt 8 (((((dt 7 3) - 1) * 5) + 0).toNat) p2))) rfl ?_
    exact ⟨(u2 dt 8 (((((dt 7 3) - 1) * 5) + 0).toNat) p2), rfl, hI3, hF4, ⟨rfl, ⟨by intro j hj; first | exact u2_ne (by omega) | (exfalso; fail), by first | exact u2_eq | (exfalso; fail)⟩⟩⟩
theorem sp_X2_set_7_1 (L : Nat) (xs : Nat → Int32) (sio : Option Nat) (d : Nat) (dt : Nat → Nat → Int) (hI : InvC dt)  (p2 : Int) (h_p2 : (-2147483648) ≤ p2 ∧ p2 ≤ 2147483647) (h_p0 : 0 < dt 7 3) : GO (am_XX L xs sio) (d) 41 0 [some (.inr (.inr (some 7))), some (.inl 1), some (.inl p2)] [] (SH, dt) (fun r w2 => ∃ dt2 : Nat → Nat → Int, w2 = (SH, dt2) ∧ InvC dt2 ∧ Fr [8] dt dt2 ∧ ((r = none ∧ (∀ j : Nat, ¬ (j : Int) = ((dt 7 3) - 1) * 5 + 1 → dt2 8 j = dt 8 j) ∧ (dt2 8 ((((dt 7 3) - 1) * 5) + 1).toNat = p2)))) := by
  have hF : Fr [8] dt dt := Fr_refl
  have r1 : 0 ≤ dt 7 3 ∧ dt 7 3 ≤ 12 := InvC_get hI 7 3 rfl rfl
  refine go_ifq PM41 (k := 2) (p1 := 34) (p2 := 7) (L' := [some (.inr (.inr (some 7))), some (.inl 1), some (.inl p2)]) (st' := []) (w' := (SH, dt)) rfl (z_le (a := dt 7 3) (by first | exact bnd r1 (by decide) (by decide) | exact ⟨by fail, by fail⟩)) (fun c2 => ?_) (fun c2 => ?_)
  · skip
    refine go_retq PM41 (k := 0) (r := none) (w1 := (SH, dt)) rfl ?_
    exact ⟨dt, rfl, hI, hF, ⟨rfl, ⟨by intro j hj; first | exact u2_ne (by omega) | (exfalso; omega), by first | exact u2_eq | (exfalso; omega)⟩⟩⟩
  · skip
    refine go_toq PM41 (k := 2) (pc' := 9) (L' := [some (.inr (.inr (some 7))), some (.inl 1), some (.inl p2)]) (st' := [.inr (.inr (some 7)), .inl 1]) (w' := (SH, dt)) rfl ?_
    refine go_smpq PM41 (L' := [some (.inr (.inr (some 7))), some (.inl 1), some (.inl p2)]) (st' := [.inl 5, .inl 1]) (w' := (SH, dt)) rfl rfl (s_gfc rfl rfl rfl (hI.2 7 1 rfl)) ?_
    refine go_toq PM41 (k := 8) (pc' := 26) (L' := [some (.inr (.inr (some 7))), some (.inl 1), some (.inl p2)]) (st' := [.inr (.inr (some 7)), .inl ((dt 7 3) - 1), .inr (.inr (some 8))]) (w' := (SH, dt)) rfl ?_
    refine go_smpq PM41 (L' := [some (.inr (.inr (some 7))), some (.inl 1), some (.inl p2)]) (st' := [.inl 5, .inl ((dt 7 3) - 1), .inr (.inr (some 8))]) (w' := (SH, dt)) rfl rfl (s_gfc rfl rfl rfl (hI.2 7 1 rfl)) ?_
    refine go_toq PM41 (k := 4) (pc' := 33) (L' := [some (.inr (.inr (some 7))), some (.inl 1), some (.inl p2)]) (st' := [.inl p2, .inl ((((dt 7 3) - 1) * 5) + 1), .inr (.inr (some 8))]) (w' := (SH, dt)) rfl ?_
    have hI3 : InvC (u2 dt 8 (((((dt 7 3) - 1) * 5) + 1).toNat) p2) := InvC_u2 hI (lo := -2147483648) (hi := 2147483647) rfl rfl rfl (by first | exact bnd1 h_p2 (by decide) | fail) (by first | exact bnd2 h_p2 (by decide) | fail)
    have hF4 : Fr [8] dt (u2 dt 8 (((((dt 7 3) - 1) * 5) + 1).toNat) p2) := Fr_u2 hF (by decide)
    refine go_smpq PM41 (L' := [some (.inr (.inr (some 7))), some (.inl 1), some (.inl p2)]) (st' := []) (w' := (SH, (u2 dt 8 (((((dt 7 3) - 1) * 5) + 1).toNat) p2))) rfl rfl (s_iast (n := 60) rfl ⟨by omega, by omega⟩ (by first | exact bnd h_p2 (by decide) (by decide) | exact ⟨by fail, by fail⟩)) ?_
    refine go_retq PM41 (k := 0) (r := none) (w1 := (SH, (u2 dt 8 (((((dt 7 3) - 1) * 5) + 1).toNat) p2))) rfl ?_
    exact ⟨(u2 dt 8 (((((dt 7 3) - 1) * 5) + 1).toNat) p2), rfl, hI3, hF4, ⟨rfl, ⟨by intro j hj; first | exact u2_ne (by omega) | (exfalso; fail), by first | exact u2_eq | (exfalso; fail)⟩⟩⟩
theorem sp_X2_set_7_2 (L : Nat) (xs : Nat → Int32) (sio : Option Nat) (d : Nat) (dt : Nat → Nat → Int) (hI : InvC dt)  (p2 : Int) (h_p2 : (-2147483648) ≤ p2 ∧ p2 ≤ 2147483647) (h_p0 : 0 < dt 7 3) : GO (am_XX L xs sio) (d) 41 0 [some (.inr (.inr (some 7))), some (.inl 2), some (.inl p2)] [] (SH, dt) (fun r w2 => ∃ dt2 : Nat → Nat → Int, w2 = (SH, dt2) ∧ InvC dt2 ∧ Fr [8] dt dt2 ∧ ((r = none ∧ (∀ j : Nat, ¬ (j : Int) = ((dt 7 3) - 1) * 5 + 2 → dt2 8 j = dt 8 j) ∧ (dt2 8 ((((dt 7 3) - 1) * 5) + 2).toNat = p2)))) := by
  have hF : Fr [8] dt dt := Fr_refl
  have r1 : 0 ≤ dt 7 3 ∧ dt 7 3 ≤ 12 := InvC_get hI 7 3 rfl rfl
  refine go_ifq PM41 (k := 2) (p1 := 34) (p2 := 7) (L' := [some (.inr (.inr (some 7))), some (.inl 2), some (.inl p2)]) (st' := []) (w' := (SH, dt)) rfl (z_le (a := dt 7 3) (by first | exact bnd r1 (by decide) (by decide) | exact ⟨by fail, by fail⟩)) (fun c2 => ?_) (fun c2 => ?_)
  · skip
    refine go_retq PM41 (k := 0) (r := none) (w1 := (SH, dt)) rfl ?_
    exact ⟨dt, rfl, hI, hF, ⟨rfl, ⟨by intro j hj; first | exact u2_ne (by omega) | (exfalso; omega), by first | exact u2_eq | (exfalso; omega)⟩⟩⟩
  · skip
    refine go_toq PM41 (k := 2) (pc' := 9) (L' := [some (.inr (.inr (some 7))), some (.inl 2), some (.inl p2)]) (st' := [.inr (.inr (some 7)), .inl 2]) (w' := (SH, dt)) rfl ?_
    refine go_smpq PM41 (L' := [some (.inr (.inr (some 7))), some (.inl 2), some (.inl p2)]) (st' := [.inl 5, .inl 2]) (w' := (SH, dt)) rfl rfl (s_gfc rfl rfl rfl (hI.2 7 1 rfl)) ?_
    refine go_toq PM41 (k := 8) (pc' := 26) (L' := [some (.inr (.inr (some 7))), some (.inl 2), some (.inl p2)]) (st' := [.inr (.inr (some 7)), .inl ((dt 7 3) - 1), .inr (.inr (some 8))]) (w' := (SH, dt)) rfl ?_
    refine go_smpq PM41 (L' := [some (.inr (.inr (some 7))), some (.inl 2), some (.inl p2)]) (st' := [.inl 5, .inl ((dt 7 3) - 1), .inr (.inr (some 8))]) (w' := (SH, dt)) rfl rfl (s_gfc rfl rfl rfl (hI.2 7 1 rfl)) ?_
    refine go_toq PM41 (k := 4) (pc' := 33) (L' := [some (.inr (.inr (some 7))), some (.inl 2), some (.inl p2)]) (st' := [.inl p2, .inl ((((dt 7 3) - 1) * 5) + 2), .inr (.inr (some 8))]) (w' := (SH, dt)) rfl ?_
    have hI3 : InvC (u2 dt 8 (((((dt 7 3) - 1) * 5) + 2).toNat) p2) := InvC_u2 hI (lo := -2147483648) (hi := 2147483647) rfl rfl rfl (by first | exact bnd1 h_p2 (by decide) | fail) (by first | exact bnd2 h_p2 (by decide) | fail)
    have hF4 : Fr [8] dt (u2 dt 8 (((((dt 7 3) - 1) * 5) + 2).toNat) p2) := Fr_u2 hF (by decide)
    refine go_smpq PM41 (L' := [some (.inr (.inr (some 7))), some (.inl 2), some (.inl p2)]) (st' := []) (w' := (SH, (u2 dt 8 (((((dt 7 3) - 1) * 5) + 2).toNat) p2))) rfl rfl (s_iast (n := 60) rfl ⟨by omega, by omega⟩ (by first | exact bnd h_p2 (by decide) (by decide) | exact ⟨by fail, by fail⟩)) ?_
    refine go_retq PM41 (k := 0) (r := none) (w1 := (SH, (u2 dt 8 (((((dt 7 3) - 1) * 5) + 2).toNat) p2))) rfl ?_
    exact ⟨(u2 dt 8 (((((dt 7 3) - 1) * 5) + 2).toNat) p2), rfl, hI3, hF4, ⟨rfl, ⟨by intro j hj; first | exact u2_ne (by omega) | (exfalso; fail), by first | exact u2_eq | (exfalso; fail)⟩⟩⟩
theorem sp_X2_set_7_3 (L : Nat) (xs : Nat → Int32) (sio : Option Nat) (d : Nat) (dt : Nat → Nat → Int) (hI : InvC dt)  (p2 : Int) (h_p2 : (-2147483648) ≤ p2 ∧ p2 ≤ 2147483647) (h_p0 : 0 < dt 7 3) : GO (am_XX L xs sio) (d) 41 0 [some (.inr (.inr (some 7))), some (.inl 3), some (.inl p2)] [] (SH, dt) (fun r w2 => ∃ dt2 : Nat → Nat → Int, w2 = (SH, dt2) ∧ InvC dt2 ∧ Fr [8] dt dt2 ∧ ((r = none ∧ (∀ j : Nat, ¬ (j : Int) = ((dt 7 3) - 1) * 5 + 3 → dt2 8 j = dt 8 j) ∧ (dt2 8 ((((dt 7 3) - 1) * 5) + 3).toNat = p2)))) := by
  have hF : Fr [8] dt dt := Fr_refl
  have r1 : 0 ≤ dt 7 3 ∧ dt 7 3 ≤ 12 := InvC_get hI 7 3 rfl rfl
  refine go_ifq PM41 (k := 2) (p1 := 34) (p2 := 7) (L' := [some (.inr (.inr (some 7))), some (.inl 3), some (.inl p2)]) (st' := []) (w' := (SH, dt)) rfl (z_le (a := dt 7 3) (by first | exact bnd r1 (by decide) (by decide) | exact ⟨by fail, by fail⟩)) (fun c2 => ?_) (fun c2 => ?_)
  · skip
    refine go_retq PM41 (k := 0) (r := none) (w1 := (SH, dt)) rfl ?_
    exact ⟨dt, rfl, hI, hF, ⟨rfl, ⟨by intro j hj; first | exact u2_ne (by omega) | (exfalso; omega), by first | exact u2_eq | (exfalso; omega)⟩⟩⟩
  · skip
    refine go_toq PM41 (k := 2) (pc' := 9) (L' := [some (.inr (.inr (some 7))), some (.inl 3), some (.inl p2)]) (st' := [.inr (.inr (some 7)), .inl 3]) (w' := (SH, dt)) rfl ?_
    refine go_smpq PM41 (L' := [some (.inr (.inr (some 7))), some (.inl 3), some (.inl p2)]) (st' := [.inl 5, .inl 3]) (w' := (SH, dt)) rfl rfl (s_gfc rfl rfl rfl (hI.2 7 1 rfl)) ?_
    refine go_toq PM41 (k := 8) (pc' := 26) (L' := [some (.inr (.inr (some 7))), some (.inl 3), some (.inl p2)]) (st' := [.inr (.inr (some 7)), .inl ((dt 7 3) - 1), .inr (.inr (some 8))]) (w' := (SH, dt)) rfl ?_
    refine go_smpq PM41 (L' := [some (.inr (.inr (some 7))), some (.inl 3), some (.inl p2)]) (st' := [.inl 5, .inl ((dt 7 3) - 1), .inr (.inr (some 8))]) (w' := (SH, dt)) rfl rfl (s_gfc rfl rfl rfl (hI.2 7 1 rfl)) ?_
    refine go_toq PM41 (k := 4) (pc' := 33) (L' := [some (.inr (.inr (some 7))), some (.inl 3), some (.inl p2)]) (st' := [.inl p2, .inl ((((dt 7 3) - 1) * 5) + 3), .inr (.inr (some 8))]) (w' := (SH, dt)) rfl ?_
    have hI3 : InvC (u2 dt 8 (((((dt 7 3) - 1) * 5) + 3).toNat) p2) := InvC_u2 hI (lo := -2147483648) (hi := 2147483647) rfl rfl rfl (by first | exact bnd1 h_p2 (by decide) | fail) (by first | exact bnd2 h_p2 (by decide) | fail)
    have hF4 : Fr [8] dt (u2 dt 8 (((((dt 7 3) - 1) * 5) + 3).toNat) p2) := Fr_u2 hF (by decide)
    refine go_smpq PM41 (L' := [some (.inr (.inr (some 7))), some (.inl 3), some (.inl p2)]) (st' := []) (w' := (SH, (u2 dt 8 (((((dt 7 3) - 1) * 5) + 3).toNat) p2))) rfl rfl (s_iast (n := 60) rfl ⟨by omega, by omega⟩ (by first | exact bnd h_p2 (by decide) (by decide) | exact ⟨by fail, by fail⟩)) ?_
    refine go_retq PM41 (k := 0) (r := none) (w1 := (SH, (u2 dt 8 (((((dt 7 3) - 1) * 5) + 3).toNat) p2))) rfl ?_
    exact ⟨(u2 dt 8 (((((dt 7 3) - 1) * 5) + 3).toNat) p2), rfl, hI3, hF4, ⟨rfl, ⟨by intro j hj; first | exact u2_ne (by omega) | (exfalso; fail), by first | exact u2_eq | (exfalso; fail)⟩⟩⟩
theorem sp_X2_set_7_4 (L : Nat) (xs : Nat → Int32) (sio : Option Nat) (d : Nat) (dt : Nat → Nat → Int) (hI : InvC dt)  (p2 : Int) (h_p2 : (-2147483648) ≤ p2 ∧ p2 ≤ 2147483647) (h_p0 : 0 < dt 7 3) : GO (am_XX L xs sio) (d) 41 0 [some (.inr (.inr (some 7))), some (.inl 4), some (.inl p2)] [] (SH, dt) (fun r w2 => ∃ dt2 : Nat → Nat → Int, w2 = (SH, dt2) ∧ InvC dt2 ∧ Fr [8] dt dt2 ∧ ((r = none ∧ (∀ j : Nat, ¬ (j : Int) = ((dt 7 3) - 1) * 5 + 4 → dt2 8 j = dt 8 j) ∧ (dt2 8 ((((dt 7 3) - 1) * 5) + 4).toNat = p2)))) := by
  have hF : Fr [8] dt dt := Fr_refl
  have r1 : 0 ≤ dt 7 3 ∧ dt 7 3 ≤ 12 := InvC_get hI 7 3 rfl rfl
  refine go_ifq PM41 (k := 2) (p1 := 34) (p2 := 7) (L' := [some (.inr (.inr (some 7))), some (.inl 4), some (.inl p2)]) (st' := []) (w' := (SH, dt)) rfl (z_le (a := dt 7 3) (by first | exact bnd r1 (by decide) (by decide) | exact ⟨by fail, by fail⟩)) (fun c2 => ?_) (fun c2 => ?_)
  · skip
    refine go_retq PM41 (k := 0) (r := none) (w1 := (SH, dt)) rfl ?_
    exact ⟨dt, rfl, hI, hF, ⟨rfl, ⟨by intro j hj; first | exact u2_ne (by omega) | (exfalso; omega), by first | exact u2_eq | (exfalso; omega)⟩⟩⟩
  · skip
    refine go_toq PM41 (k := 2) (pc' := 9) (L' := [some (.inr (.inr (some 7))), some (.inl 4), some (.inl p2)]) (st' := [.inr (.inr (some 7)), .inl 4]) (w' := (SH, dt)) rfl ?_
    refine go_smpq PM41 (L' := [some (.inr (.inr (some 7))), some (.inl 4), some (.inl p2)]) (st' := [.inl 5, .inl 4]) (w' := (SH, dt)) rfl rfl (s_gfc rfl rfl rfl (hI.2 7 1 rfl)) ?_
    refine go_toq PM41 (k := 8) (pc' := 26) (L' := [some (.inr (.inr (some 7))), some (.inl 4), some (.inl p2)]) (st' := [.inr (.inr (some 7)), .inl ((dt 7 3) - 1), .inr (.inr (some 8))]) (w' := (SH, dt)) rfl ?_
    refine go_smpq PM41 (L' := [some (.inr (.inr (some 7))), some (.inl 4), some (.inl p2)]) (st' := [.inl 5, .inl ((dt 7 3) - 1), .inr (.inr (some 8))]) (w' := (SH, dt)) rfl rfl (s_gfc rfl rfl rfl (hI.2 7 1 rfl)) ?_
    refine go_toq PM41 (k := 4) (pc' := 33) (L' := [some (.inr (.inr (some 7))), some (.inl 4), some (.inl p2)]) (st' := [.inl p2, .inl ((((dt 7 3) - 1) * 5) + 4), .inr (.inr (some 8))]) (w' := (SH, dt)) rfl ?_
    have hI3 : InvC (u2 dt 8 (((((dt 7 3) - 1) * 5) + 4).toNat) p2) := InvC_u2 hI (lo := -2147483648) (hi := 2147483647) rfl rfl rfl (by first | exact bnd1 h_p2 (by decide) | fail) (by first | exact bnd2 h_p2 (by decide) | fail)
    have hF4 : Fr [8] dt (u2 dt 8 (((((dt 7 3) - 1) * 5) + 4).toNat) p2) := Fr_u2 hF (by decide)
    refine go_smpq PM41 (L' := [some (.inr (.inr (some 7))), some (.inl 4), some (.inl p2)]) (st' := []) (w' := (SH, (u2 dt 8 (((((dt 7 3) - 1) * 5) + 4).toNat) p2))) rfl rfl (s_iast (n := 60) rfl ⟨by omega, by omega⟩ (by first | exact bnd h_p2 (by decide) (by decide) | exact ⟨by fail, by fail⟩)) ?_
    refine go_retq PM41 (k := 0) (r := none) (w1 := (SH, (u2 dt 8 (((((dt 7 3) - 1) * 5) + 4).toNat) p2))) rfl ?_
    exact ⟨(u2 dt 8 (((((dt 7 3) - 1) * 5) + 4).toNat) p2), rfl, hI3, hF4, ⟨rfl, ⟨by intro j hj; first | exact u2_ne (by omega) | (exfalso; fail), by first | exact u2_eq | (exfalso; fail)⟩⟩⟩
theorem sp_X2_set_7_5 (L : Nat) (xs : Nat → Int32) (sio : Option Nat) (d : Nat) (dt : Nat → Nat → Int) (hI : InvC dt)  (p2 : Int) (h_p2 : (-2147483648) ≤ p2 ∧ p2 ≤ 2147483647)  : GO (am_XX L xs sio) (d) 41 0 [some (.inr (.inr (some 7))), some (.inl 5), some (.inl p2)] [] (SH, dt) (fun r w2 => w2 = (SH, dt) ∧ ((r = none ∧ True))) := by
  have r1 : 0 ≤ dt 7 3 ∧ dt 7 3 ≤ 12 := InvC_get hI 7 3 rfl rfl
  refine go_ifq PM41 (k := 2) (p1 := 34) (p2 := 7) (L' := [some (.inr (.inr (some 7))), some (.inl 5), some (.inl p2)]) (st' := []) (w' := (SH, dt)) rfl (z_le (a := dt 7 3) (by first | exact bnd r1 (by decide) (by decide) | exact ⟨by fail, by fail⟩)) (fun c2 => ?_) (fun c2 => ?_)
  · skip
    refine go_retq PM41 (k := 0) (r := none) (w1 := (SH, dt)) rfl ?_
    exact ⟨rfl, ⟨rfl, trivial⟩⟩
  · skip
    refine go_toq PM41 (k := 2) (pc' := 9) (L' := [some (.inr (.inr (some 7))), some (.inl 5), some (.inl p2)]) (st' := [.inr (.inr (some 7)), .inl 5]) (w' := (SH, dt)) rfl ?_
    refine go_smpq PM41 (L' := [some (.inr (.inr (some 7))), some (.inl 5), some (.inl p2)]) (st' := [.inl 5, .inl 5]) (w' := (SH, dt)) rfl rfl (s_gfc rfl rfl rfl (hI.2 7 1 rfl)) ?_
    refine go_retq PM41 (k := 1) (r := none) (w1 := (SH, dt)) rfl ?_
    exact ⟨rfl, ⟨rfl, trivial⟩⟩
theorem sp_X2_add_7f (L : Nat) (xs : Nat → Int32) (sio : Option Nat) (d : Nat) (dt : Nat → Nat → Int) (hI : InvC dt)  (p1 : Int) (h_p1 : (-2147483648) ≤ p1 ∧ p1 ≤ 2147483647) (p2 : Int) (h_p2 : (-2147483648) ≤ p2 ∧ p2 ≤ 2147483647) (p3 : Int) (h_p3 : (-2147483648) ≤ p3 ∧ p3 ≤ 2147483647) (p4 : Int) (h_p4 : (-2147483648) ≤ p4 ∧ p4 ≤ 2147483647) (p5 : Int) (h_p5 : (-2147483648) ≤ p5 ∧ p5 ≤ 2147483647) (p6 : Int) (h_p6 : (-2147483648) ≤ p6 ∧ p6 ≤ 2147483647)  : GO (am_XX L xs sio) (d + 1) 40 0 [some (.inr (.inr (some 7))), some (.inl p1), some (.inl p2), some (.inl p3), some (.inl p4), some (.inl p5), some (.inl p6)] [] (SH, dt) (fun r w2 => ∃ dt2 : Nat → Nat → Int, w2 = (SH, dt2) ∧ InvC dt2 ∧ Fr [7, 8] dt dt2 ∧ ((r = some (.inl (-1)) ∧ (12 ≤ dt 7 3) ∧ (dt2 7 3 = dt 7 3) ∧ (∀ j : Nat, dt2 8 j = dt 8 j)) ∨ (∃ v : Int, r = some (.inl v) ∧ (0 ≤ v ∧ v ≤ 12) ∧ (v = dt 7 3) ∧ (dt 7 3 < 12) ∧ (dt2 7 3 = dt 7 3 + 1) ∧ (∀ j : Nat, (j : Int) < 5 * dt 7 3 → dt2 8 j = dt 8 j) ∧ (dt2 8 (((dt 7 3) * 5) + 0).toNat = p1) ∧ (dt2 8 (((dt 7 3) * 5) + 1).toNat = p2) ∧ (dt2 8 (((dt 7 3) * 5) + 2).toNat = p3) ∧ (dt2 8 (((dt 7 3) * 5) + 3).toNat = p4) ∧ (dt2 8 (((dt 7 3) * 5) + 4).toNat = p5)))) := by
  have hF : Fr [7, 8] dt dt := Fr_refl
  have r1 : 0 ≤ dt 7 3 ∧ dt 7 3 ≤ 12 := InvC_get hI 7 3 rfl rfl
  refine go_toq PM40 (k := 1) (pc' := 1) (L' := [some (.inr (.inr (some 7))), some (.inl p1), some (.inl p2), some (.inl p3), some (.inl p4), some (.inl p5), some (.inl p6)]) (st' := [.inr (.inr (some 7))]) (w' := (SH, dt)) rfl ?_
  refine go_callq PM40 PM38 (Q' := _) rfl rfl rfl rfl (sp_X2_isFull_7 L xs sio (d + 0) dt hI   ) ?_
  rintro _ _ ⟨rfl, h2⟩
  refine ⟨rfl, ?_⟩
  rcases h2 with ⟨rfl, h2⟩ | ⟨rfl, h2⟩
  · skip
    refine go_retq PM40 (k := 2) (r := some (.inl (-1))) (w1 := (SH, dt)) rfl ?_
    first | exact ⟨dt, rfl, hI, hF, (Or.inl ⟨rfl, ⟨by first | exact True.intro | with_reducible assumption | rfl | fail | trivial, by first | exact True.intro | with_reducible assumption | rfl | fail | trivial, by exact fun _ => rfl⟩⟩)⟩ | exact ⟨dt, rfl, hI, hF, (Or.inr ⟨_, rfl, ⟨by decide, by decide⟩, ⟨by first | exact True.intro | with_reducible assumption | rfl | fail | trivial, by first | exact True.intro | with_reducible assumption | rfl | fail | trivial, by first | exact True.intro | with_reducible assumption | rfl | fail | trivial, by assumption, by assumption, by assumption, by assumption, by assumption, by assumption⟩⟩)⟩
  · skip
    refine go_toq PM40 (k := 6) (pc' := 16) (L' := [some (.inr (.inr (some 7))), some (.inl p1), some (.inl p2), some (.inl p3), some (.inl p4), some (.inl p5), some (.inl p6)]) (st' := [.inl ((dt 7 3) + 1), .inr (.inr (some 7))]) (w' := (SH, dt)) rfl ?_
    have hI3 : InvC (u2 dt 7 3 ((dt 7 3) + 1)) := InvC_u2 hI (lo := 0) (hi := 12) rfl rfl rfl (by omega) (by omega)
    have hF4 : Fr [7, 8] dt (u2 dt 7 3 ((dt 7 3) + 1)) := Fr_u2 hF (by decide)
    have w5 : (u2 dt 7 3 ((dt 7 3) + 1)) 7 3 = (dt 7 3) + 1 := rfl
    refine go_smpq PM40 (L' := [some (.inr (.inr (some 7))), some (.inl p1), some (.inl p2), some (.inl p3), some (.inl p4), some (.inl p5), some (.inl p6)]) (st' := []) (w' := (SH, (u2 dt 7 3 ((dt 7 3) + 1)))) rfl rfl (s_pf rfl rfl rfl rfl (by first | exact bndp r1 (by decide) (by decide) | exact ⟨by fail, by fail⟩)) ?_
    refine go_toq PM40 (k := 3) (pc' := 22) (L' := [some (.inr (.inr (some 7))), some (.inl p1), some (.inl p2), some (.inl p3), some (.inl p4), some (.inl p5), some (.inl p6)]) (st' := [.inl p1, .inl 0, .inr (.inr (some 7))]) (w' := (SH, (u2 dt 7 3 ((dt 7 3) + 1)))) rfl ?_
    refine go_callq PM40 PM41 (Q' := _) rfl rfl rfl rfl (sp_X2_set_7_0 L xs sio (d + 0) (u2 dt 7 3 ((dt 7 3) + 1)) hI3  p1 (by first | exact h_p1 | exact bnd h_p1 (by decide) (by decide) | exact ⟨by fail, by fail⟩) (by first | exact True.intro | with_reducible assumption | rfl | omega | trivial)) ?_
    rintro _ _ ⟨dt7, rfl, hI8, hF9, h6⟩
    refine ⟨rfl, ?_⟩
    have hF10 : Fr [7, 8] dt dt7 := Fr_tr hF4 hF9 (by decide)
    have w11 : dt7 7 3 = (u2 dt 7 3 ((dt 7 3) + 1)) 7 3 := hF9 7 (by decide) 3
    rcases h6 with ⟨rfl, h6⟩
    obtain ⟨h6_0, h6_1⟩ := h6
    have B12 : ∀ j : Nat, (j : Int) < 5 * dt 7 3 → dt7 8 j = dt 8 j := fun j hj => (h6_0 j (by omega)).trans rfl
    have Y13 : dt7 8 (((dt 7 3) * 5) + 0).toNat = p1 := by rw [show (((dt 7 3) * 5) + 0).toNat = (((((u2 dt 7 3 ((dt 7 3) + 1)) 7 3) - 1) * 5) + 0).toNat by first | with_reducible assumption | omega]; exact h6_1
    refine go_toq PM40 (k := 3) (pc' := 28) (L' := [some (.inr (.inr (some 7))), some (.inl p1), some (.inl p2), some (.inl p3), some (.inl p4), some (.inl p5), some (.inl p6)]) (st' := [.inl p2, .inl 1, .inr (.inr (some 7))]) (w' := (SH, dt7)) rfl ?_
    refine go_callq PM40 PM41 (Q' := _) rfl rfl rfl rfl (sp_X2_set_7_1 L xs sio (d + 0) dt7 hI8  p2 (by first | exact h_p2 | exact bnd h_p2 (by decide) (by decide) | exact ⟨by fail, by fail⟩) (by first | exact True.intro | with_reducible assumption | rfl | omega | trivial)) ?_
    rintro _ _ ⟨dt15, rfl, hI16, hF17, h14⟩
    refine ⟨rfl, ?_⟩
    have hF18 : Fr [7, 8] dt dt15 := Fr_tr hF10 hF17 (by decide)
    have w19 : dt15 7 3 = dt7 7 3 := hF17 7 (by decide) 3
    rcases h14 with ⟨rfl, h14⟩
    obtain ⟨h14_0, h14_1⟩ := h14
    have B20 : ∀ j : Nat, (j : Int) < 5 * dt 7 3 → dt15 8 j = dt 8 j := fun j hj => (h14_0 j (by omega)).trans (B12 j hj)
    have Y21 : dt15 8 (((dt 7 3) * 5) + 0).toNat = p1 := (h14_0 _ (by omega)).trans Y13
    have Y22 : dt15 8 (((dt 7 3) * 5) + 1).toNat = p2 := by rw [show (((dt 7 3) * 5) + 1).toNat = ((((dt7 7 3) - 1) * 5) + 1).toNat by first | with_reducible assumption | omega]; exact h14_1
    refine go_toq PM40 (k := 3) (pc' := 34) (L' := [some (.inr (.inr (some 7))), some (.inl p1), some (.inl p2), some (.inl p3), some (.inl p4), some (.inl p5), some (.inl p6)]) (st' := [.inl p3, .inl 2, .inr (.inr (some 7))]) (w' := (SH, dt15)) rfl ?_
    refine go_callq PM40 PM41 (Q' := _) rfl rfl rfl rfl (sp_X2_set_7_2 L xs sio (d + 0) dt15 hI16  p3 (by first | exact h_p3 | exact bnd h_p3 (by decide) (by decide) | exact ⟨by fail, by fail⟩) (by first | exact True.intro | with_reducible assumption | rfl | omega | trivial)) ?_
    rintro _ _ ⟨dt24, rfl, hI25, hF26, h23⟩
    refine ⟨rfl, ?_⟩
    have hF27 : Fr [7, 8] dt dt24 := Fr_tr hF18 hF26 (by decide)
    have w28 : dt24 7 3 = dt15 7 3 := hF26 7 (by decide) 3
    rcases h23 with ⟨rfl, h23⟩
    obtain ⟨h23_0, h23_1⟩ := h23
    have B29 : ∀ j : Nat, (j : Int) < 5 * dt 7 3 → dt24 8 j = dt 8 j := fun j hj => (h23_0 j (by omega)).trans (B20 j hj)
    have Y30 : dt24 8 (((dt 7 3) * 5) + 0).toNat = p1 := (h23_0 _ (by omega)).trans Y21
    have Y31 : dt24 8 (((dt 7 3) * 5) + 1).toNat = p2 := (h23_0 _ (by omega)).trans Y22
    have Y32 : dt24 8 (((dt 7 3) * 5) + 2).toNat = p3 := by rw [show (((dt 7 3) * 5) + 2).toNat = ((((dt15 7 3) - 1) * 5) + 2).toNat by first | with_reducible assumption | omega]; exact h23_1
    refine go_toq PM40 (k := 3) (pc' := 41) (L' := [some (.inr (.inr (some 7))), some (.inl p1), some (.inl p2), some (.inl p3), some (.inl p4), some (.inl p5), some (.inl p6)]) (st' := [.inl p4, .inl 3, .inr (.inr (some 7))]) (w' := (SH, dt24)) rfl ?_
    refine go_callq PM40 PM41 (Q' := _) rfl rfl rfl rfl (sp_X2_set_7_3 L xs sio (d + 0) dt24 hI25  p4 (by first | exact h_p4 | exact bnd h_p4 (by decide) (by decide) | exact ⟨by fail, by fail⟩) (by first | exact True.intro | with_reducible assumption | rfl | omega | trivial)) ?_
    rintro _ _ ⟨dt34, rfl, hI35, hF36, h33⟩
    refine ⟨rfl, ?_⟩
    have hF37 : Fr [7, 8] dt dt34 := Fr_tr hF27 hF36 (by decide)
    have w38 : dt34 7 3 = dt24 7 3 := hF36 7 (by decide) 3
    rcases h33 with ⟨rfl, h33⟩
    obtain ⟨h33_0, h33_1⟩ := h33
    have B39 : ∀ j : Nat, (j : Int) < 5 * dt 7 3 → dt34 8 j = dt 8 j := fun j hj => (h33_0 j (by omega)).trans (B29 j hj)
    have Y40 : dt34 8 (((dt 7 3) * 5) + 0).toNat = p1 := (h33_0 _ (by omega)).trans Y30
    have Y41 : dt34 8 (((dt 7 3) * 5) + 1).toNat = p2 := (h33_0 _ (by omega)).trans Y31
    have Y42 : dt34 8 (((dt 7 3) * 5) + 2).toNat = p3 := (h33_0 _ (by omega)).trans Y32
    have Y43 : dt34 8 (((dt 7 3) * 5) + 3).toNat = p4 := by rw [show (((dt 7 3) * 5) + 3).toNat = ((((dt24 7 3) - 1) * 5) + 3).toNat by first | with_reducible assumption | omega]; exact h33_1
    refine go_toq PM40 (k := 3) (pc' := 48) (L' := [some (.inr (.inr (some 7))), some (.inl p1), some (.inl p2), some (.inl p3), some (.inl p4), some (.inl p5), some (.inl p6)]) (st' := [.inl p5, .inl 4, .inr (.inr (some 7))]) (w' := (SH, dt34)) rfl ?_
    refine go_callq PM40 PM41 (Q' := _) rfl rfl rfl rfl (sp_X2_set_7_4 L xs sio (d + 0) dt34 hI35  p5 (by first | exact h_p5 | exact bnd h_p5 (by decide) (by decide) | exact ⟨by fail, by fail⟩) (by first | exact True.intro | with_reducible assumption | rfl | omega | trivial)) ?_
    rintro _ _ ⟨dt45, rfl, hI46, hF47, h44⟩
    refine ⟨rfl, ?_⟩
    have hF48 : Fr [7, 8] dt dt45 := Fr_tr hF37 hF47 (by decide)
    have w49 : dt45 7 3 = dt34 7 3 := hF47 7 (by decide) 3
    rcases h44 with ⟨rfl, h44⟩
    obtain ⟨h44_0, h44_1⟩ := h44
    have B50 : ∀ j : Nat, (j : Int) < 5 * dt 7 3 → dt45 8 j = dt 8 j := fun j hj => (h44_0 j (by omega)).trans (B39 j hj)
    have Y51 : dt45 8 (((dt 7 3) * 5) + 0).toNat = p1 := (h44_0 _ (by omega)).trans Y40
    have Y52 : dt45 8 (((dt 7 3) * 5) + 1).toNat = p2 := (h44_0 _ (by omega)).trans Y41
    have Y53 : dt45 8 (((dt 7 3) * 5) + 2).toNat = p3 := (h44_0 _ (by omega)).trans Y42
    have Y54 : dt45 8 (((dt 7 3) * 5) + 3).toNat = p4 := (h44_0 _ (by omega)).trans Y43
    have Y55 : dt45 8 (((dt 7 3) * 5) + 4).toNat = p5 := by rw [show (((dt 7 3) * 5) + 4).toNat = ((((dt34 7 3) - 1) * 5) + 4).toNat by first | with_reducible assumption | omega]; exact h44_1
    refine go_toq PM40 (k := 3) (pc' := 55) (L' := [some (.inr (.inr (some 7))), some (.inl p1), some (.inl p2), some (.inl p3), some (.inl p4), some (.inl p5), some (.inl p6)]) (st' := [.inl p6, .inl 5, .inr (.inr (some 7))]) (w' := (SH, dt45)) rfl ?_
    refine go_callq PM40 PM41 (Q' := _) rfl rfl rfl rfl (sp_X2_set_7_5 L xs sio (d + 0) dt45 hI46  p6 (by first | exact h_p6 | exact bnd h_p6 (by decide) (by decide) | exact ⟨by fail, by fail⟩) ) ?_
    rintro _ _ ⟨rfl, h56⟩
    refine ⟨rfl, ?_⟩
    rcases h56 with ⟨rfl, h56⟩
    have r57 : 0 ≤ dt45 7 3 ∧ dt45 7 3 ≤ 12 := InvC_get hI46 7 3 rfl rfl
    refine go_retq PM40 (k := 4) (r := some (.inl ((dt45 7 3) - 1))) (w1 := (SH, dt45)) rfl ?_
    exact ⟨dt45, rfl, hI46, hF48, (Or.inr ⟨_, rfl, ⟨by omega, by omega⟩, ⟨by first | exact True.intro | with_reducible assumption | rfl | omega | trivial, by first | exact True.intro | with_reducible assumption | rfl | omega | trivial, by first | exact True.intro | with_reducible assumption | rfl | omega | trivial, by assumption, by assumption, by assumption, by assumption, by assumption, by assumption⟩⟩)⟩
theorem sp_X5_question_f (L : Nat) (xs : Nat → Int32) (sio : Option Nat) (d : Nat) (dt : Nat → Nat → Int) (hI : InvC dt) (F : Nat → Int) (hMF : MW F) (p1 : Int) (h_p1 : (-2147483648) ≤ p1 ∧ p1 ≤ 2147483647) (p2 : Int) (h_p2 : (-2147483648) ≤ p2 ∧ p2 ≤ 2147483647) (p3 : Int) (h_p3 : (-2147483648) ≤ p3 ∧ p3 ≤ 2147483647) (p4 : Int) (h_p4 : (-2147483648) ≤ p4 ∧ p4 ≤ 2147483647) (p5 : Int) (h_p5 : (-2147483648) ≤ p5 ∧ p5 ≤ 2147483647) (h_p0 : SCL (dt 2) (dt 3) F) (h_p1 : QOC (dt 8) (dt 7 3)) : GO (am_XX L xs sio) (d + 5) 75 0 [some (.inr (.inr (some 0))), some (.inl p1), some (.inl p2), some (.inl p3), some (.inl p4), some (.inl p5), none, none, none] [] (SH, dt) (fun r w2 => ∃ dt2 : Nat → Nat → Int, w2 = (SH, dt2) ∧ InvC dt2 ∧ Fr [7, 8, 9, 44, 45, 46, 47, 48, 49, 50, 51, 52, 53, 54, 55, 56] dt dt2 ∧ ((r = some (.inl (-1)) ∧ (¬ ((0 ≤ p1 ∧ p1 ≤ 7) ∧ (0 ≤ p4 ∧ p4 ≤ 2) ∧ ((p2 = 0 ∧ (0 ≤ p3 ∧ p3 ≤ 3) ∧ (p5 = -1 ∨ (0 ≤ p5 ∧ p5 ≤ 3)) ∧ ¬ p5 = p3) ∨ (p2 = 1 ∧ (0 ≤ p3 ∧ p3 ≤ 1))) ∧ dt 7 3 < 12)) ∧ (dt2 7 3 = dt 7 3) ∧ (∀ j : Nat, dt2 8 j = dt 8 j) ∧ (∀ j : Nat, dt2 9 j = dt 9 j)) ∨ (∃ v : Int, r = some (.inl v) ∧ ((-2147483648) ≤ v ∧ v ≤ 2147483647) ∧ (v = dt 7 3) ∧ ((0 ≤ p1 ∧ p1 ≤ 7) ∧ (0 ≤ p4 ∧ p4 ≤ 2) ∧ ((p2 = 0 ∧ (0 ≤ p3 ∧ p3 ≤ 3) ∧ (p5 = -1 ∨ (0 ≤ p5 ∧ p5 ≤ 3)) ∧ ¬ p5 = p3) ∨ (p2 = 1 ∧ (0 ≤ p3 ∧ p3 ≤ 1))) ∧ dt 7 3 < 12) ∧ (dt2 7 3 = dt 7 3 + 1) ∧ (∀ j : Nat, (j : Int) < 5 * dt 7 3 → dt2 8 j = dt 8 j) ∧ (dt2 8 (((dt 7 3) * 5) + 0).toNat = p1) ∧ (dt2 8 (((dt 7 3) * 5) + 1).toNat = p2) ∧ (dt2 8 (((dt 7 3) * 5) + 2).toNat = p3) ∧ (dt2 8 (((dt 7 3) * 5) + 3).toNat = p4) ∧ (dt2 8 (((dt 7 3) * 5) + 4).toNat = (if p2 = 1 then -1 else p5)) ∧ (∀ j : Nat, j < 11 * (dt 7 3).toNat → dt2 9 j = dt 9 j) ∧ (∀ r : Nat, r ≤ 10 → dt2 9 (11 * (dt 7 3).toNat + r) = SDW (wend F p1) p2 p3 p4 (if p2 = 1 then -1 else p5) (r : Int))))) := by
  have hF : Fr [7, 8, 9, 44, 45, 46, 47, 48, 49, 50, 51, 52, 53, 54, 55, 56] dt dt := Fr_refl
  have r1 : 0 ≤ dt 7 3 ∧ dt 7 3 ≤ 12 := InvC_get hI 7 3 rfl rfl
  have hok_ : (0 ≤ p1 ∧ p1 ≤ 7) → WOK 24 (wend F p1) := fun y_ => by have z_ := MW_am hMF p1 y_; exact WOK_m (WOK_pl hMF (k := p1.toNat) (by omega) (F (6 + p1).toNat).toNat (by omega)) (by omega)
  refine go_toq PM75 (k := 1) (pc' := 1) (L' := [some (.inr (.inr (some 0))), some (.inl p1), some (.inl p2), some (.inl p3), some (.inl p4), some (.inl p5), none, none, none]) (st' := [.inl p1]) (w' := (SH, dt)) rfl ?_
  refine go_callq PM75 PM102 (Q' := _) rfl rfl rfl rfl (sp_X5_isScene L xs sio (d + 3) dt hI  p1 (by first | exact h_p1 | exact bnd h_p1 (by decide) (by decide) | exact ⟨by omega, by omega⟩) ) ?_
  rintro _ _ ⟨rfl, h2⟩
  refine ⟨rfl, ?_⟩
  rcases h2 with ⟨rfl, h2⟩ | ⟨rfl, h2⟩
  · skip
    refine go_toq PM75 (k := 2) (pc' := 9) (L' := [some (.inr (.inr (some 0))), some (.inl p1), some (.inl p2), some (.inl p3), some (.inl p4), some (.inl p5), none, none, none]) (st' := [.inl p4]) (w' := (SH, dt)) rfl ?_
    refine go_callq PM75 PM104 (Q' := _) rfl rfl rfl rfl (sp_X5_isThing L xs sio (d + 3) dt hI  p4 (by first | exact h_p4 | exact bnd h_p4 (by decide) (by decide) | exact ⟨by fail, by fail⟩) ) ?_
    rintro _ _ ⟨rfl, h3⟩
    refine ⟨rfl, ?_⟩
    rcases h3 with ⟨rfl, h3⟩ | ⟨rfl, h3⟩
    · skip
      refine go_ifq PM75 (k := 2) (p1 := 52) (p2 := 21) (L' := [some (.inr (.inr (some 0))), some (.inl p1), some (.inl p2), some (.inl p3), some (.inl p4), some (.inl p5), none, none, none]) (st' := []) (w' := (SH, dt)) rfl (z_ne (a := p2) (by first | exact bnd h_p2 (by decide) (by decide) | exact ⟨by fail, by fail⟩)) (fun c4 => ?_) (fun c4 => ?_)
      · skip
        replace c4 := hid c4
        refine go_ifq PM75 (k := 4) (p1 := 73) (p2 := 60) (L' := [some (.inr (.inr (some 0))), some (.inl p1), some (.inl p2), some (.inl p3), some (.inl p4), some (.inl p5), some (.inl 0), none, none]) (st' := []) (w' := (SH, dt)) rfl (c_ne (a := p2) (b := 1) (by first | exact bnd h_p2 (by decide) (by decide) | exact ⟨by fail, by fail⟩) ⟨by decide, by decide⟩) (fun c5 => ?_) (fun c5 => ?_)
        · skip
          replace c5 := hid c5
          refine go_retq PM75 (k := 7) (r := some (.inl (-1))) (w1 := (SH, dt)) rfl ?_
          first | exact ⟨dt, rfl, hI, hF, (Or.inl ⟨rfl, ⟨by first | exact True.intro | with_reducible assumption | exact unhid (by with_reducible assumption) | rfl | (have z0_ := unhid c4; have z1_ := unhid c5; omega) | trivial, by first | exact True.intro | with_reducible assumption | exact unhid (by with_reducible assumption) | rfl | fail | trivial, by first | exact fun _ => rfl | exact hI, by first | exact fun _ => rfl | exact hI⟩⟩)⟩ | exact ⟨dt, rfl, hI, hF, (Or.inr ⟨_, rfl, ⟨by decide, by decide⟩, ⟨by first | exact True.intro | with_reducible assumption | exact unhid (by with_reducible assumption) | rfl | fail | trivial, by first | exact True.intro | with_reducible assumption | exact unhid (by with_reducible assumption) | rfl | fail | trivial, by first | exact True.intro | with_reducible assumption | exact unhid (by with_reducible assumption) | rfl | fail | trivial, by exact hI, by first | exact hI | (rw [if_neg (by fail)]; exact hI) | (rw [if_pos (by fail)]; exact hI), by first | exact hI | (rw [if_neg (by fail)]; exact hI) | (rw [if_pos (by fail)]; exact hI), by first | exact hI | (rw [if_neg (by fail)]; exact hI) | (rw [if_pos (by fail)]; exact hI), by first | exact hI | (rw [if_neg (by fail)]; exact hI) | (rw [if_pos (by fail)]; exact hI), by first | exact hI | (rw [if_neg (by fail)]; exact hI) | (rw [if_pos (by fail)]; exact hI), by exact hI, by first | exact hI | (rw [if_neg (by fail)]; exact hI) | (rw [if_pos (by fail)]; exact hI)⟩⟩)⟩
        · skip
          refine go_toq PM75 (k := 3) (pc' := 63) (L' := [some (.inr (.inr (some 0))), some (.inl p1), some (.inl p2), some (.inl p3), some (.inl p4), some (.inl p5), some (.inl 0), none, none]) (st' := [.inl 1, .inl 0, .inl p3]) (w' := (SH, dt)) rfl ?_
          refine go_callq PM75 PM100 (Q' := _) rfl rfl rfl rfl (sp_X5_within L xs sio (d + 4) dt hI  p3 (by first | exact h_p3 | exact bnd h_p3 (by decide) (by decide) | exact ⟨by fail, by fail⟩) 0 ⟨by decide, by decide⟩ 1 ⟨by decide, by decide⟩ ) ?_
          rintro _ _ ⟨rfl, h6⟩
          refine ⟨rfl, ?_⟩
          rcases h6 with ⟨rfl, h6⟩ | ⟨rfl, h6⟩
          · skip
            refine go_toq PM75 (k := 19) (pc' := 112) (L' := [some (.inr (.inr (some 0))), some (.inl p1), some (.inl p2), some (.inl p3), some (.inl p4), some (.inl p5), some (.inl 0), some (.inl 1), none]) (st' := [.inl 0, .inl (-1), .inl p4, .inl p3, .inl p2, .inl p1, .inr (.inr (some 7))]) (w' := (SH, dt)) rfl ?_
            refine go_callq PM75 PM40 (Q' := _) rfl rfl rfl rfl (sp_X2_add_7f L xs sio (d + 3) dt hI  p1 (by first | exact h_p1 | exact bnd h_p1 (by decide) (by decide) | exact ⟨by omega, by omega⟩) p2 (by first | exact h_p2 | exact bnd h_p2 (by decide) (by decide) | exact ⟨by fail, by fail⟩) p3 (by first | exact h_p3 | exact bnd h_p3 (by decide) (by decide) | exact ⟨by fail, by fail⟩) p4 (by first | exact h_p4 | exact bnd h_p4 (by decide) (by decide) | exact ⟨by fail, by fail⟩) (-1) ⟨by decide, by decide⟩ 0 ⟨by decide, by decide⟩ ) ?_
            rintro _ _ ⟨dt8, rfl, hI9, hF10, h7⟩
            refine ⟨rfl, ?_⟩
            have hF11 : Fr [7, 8, 9, 44, 45, 46, 47, 48, 49, 50, 51, 52, 53, 54, 55, 56] dt dt8 := Fr_tr hF hF10 (by decide)
            rcases h7 with ⟨rfl, h7⟩ | ⟨v_h7, rfl, h7r, h7⟩
            · skip
              obtain ⟨h7_0, h7_1, h7_2⟩ := h7
              refine go_retq PM75 (k := 5) (r := some (.inl (-1))) (w1 := (SH, dt8)) rfl ?_
              first | exact ⟨dt8, rfl, hI9, hF11, (Or.inl ⟨rfl, ⟨by first | exact True.intro | with_reducible assumption | exact unhid (by with_reducible assumption) | rfl | omega | trivial, by first | exact True.intro | with_reducible assumption | exact unhid (by with_reducible assumption) | rfl | fail | trivial, by first | exact fun _ => rfl | exact h7_2, by first | exact fun _ => rfl | exact (fun j => hF10 9 (by decide) j)⟩⟩)⟩ | exact ⟨dt8, rfl, hI9, hF11, (Or.inr ⟨_, rfl, ⟨by decide, by decide⟩, ⟨by first | exact True.intro | with_reducible assumption | exact unhid (by with_reducible assumption) | rfl | fail | trivial, by first | exact True.intro | with_reducible assumption | exact unhid (by with_reducible assumption) | rfl | fail | trivial, by first | exact True.intro | with_reducible assumption | exact unhid (by with_reducible assumption) | rfl | fail | trivial, by exact hI, by first | exact hI | (rw [if_neg (by fail)]; exact hI) | (rw [if_pos (by fail)]; exact hI), by first | exact hI | (rw [if_neg (by fail)]; exact hI) | (rw [if_pos (by fail)]; exact hI), by first | exact hI | (rw [if_neg (by fail)]; exact hI) | (rw [if_pos (by fail)]; exact hI), by first | exact hI | (rw [if_neg (by fail)]; exact hI) | (rw [if_pos (by fail)]; exact hI), by first | exact hI | (rw [if_neg (by fail)]; exact hI) | (rw [if_pos (by fail)]; exact hI), by exact hI, by first | exact hI | (rw [if_neg (by fail)]; exact hI) | (rw [if_pos (by fail)]; exact hI)⟩⟩)⟩
            · skip
              obtain ⟨h7_0, h7_1, h7_2, h7_3, h7_4, h7_5, h7_6, h7_7, h7_8⟩ := h7
              have Q12 : QOC (dt8 8) (dt 7 3 + 1) := QOC_a h_p1 (by omega) h7_3 h7_4 h7_5 h7_6 h7_7 h7_8 (by unfold qOC; omega)
              have C13 : SCL (dt8 2) (dt8 3) F := by rw [show dt8 2 = dt 2 from funext (hF10 2 (by decide)), show dt8 3 = dt 3 from funext (hF10 3 (by decide))]; exact h_p0
              refine go_ifq PM75 (k := 3) (p1 := 134) (p2 := 123) (L' := [some (.inr (.inr (some 0))), some (.inl p1), some (.inl p2), some (.inl p3), some (.inl p4), some (.inl p5), some (.inl 0), some (.inl 1), some (.inl v_h7)]) (st' := []) (w' := (SH, dt8)) rfl (c_eq (a := v_h7) (b := (-1)) (by first | exact bnd h7r (by decide) (by decide) | exact ⟨by fail, by fail⟩) ⟨by decide, by decide⟩) (fun c14 => ?_) (fun c14 => ?_)
              · exfalso; omega
              · skip
                replace c14 := hid c14
                refine go_toq PM75 (k := 2) (pc' := 125) (L' := [some (.inr (.inr (some 0))), some (.inl p1), some (.inl p2), some (.inl p3), some (.inl p4), some (.inl p5), some (.inl 0), some (.inl 1), some (.inl v_h7)]) (st' := [.inl p1, .inr (.inr (some 0))]) (w' := (SH, dt8)) rfl ?_
                refine go_callq PM75 PM113 (Q' := _) rfl rfl rfl rfl (sp_X5_play_wF L xs sio (d + 0) dt8 hI9 F hMF p1 (by first | exact h_p1 | exact bnd h_p1 (by decide) (by decide) | exact ⟨by omega, by omega⟩) (by first | exact True.intro | with_reducible assumption | exact unhid (by with_reducible assumption) | rfl | fail | trivial | assumption | exact C13 | exact Q12 | exact hI)) ?_
                rintro _ _ ⟨dt16, rfl, hI17, hF18, h15⟩
                refine ⟨rfl, ?_⟩
                have hF19 : Fr [7, 8, 9, 44, 45, 46, 47, 48, 49, 50, 51, 52, 53, 54, 55, 56] dt dt16 := Fr_tr hF11 hF18 (by decide)
                have w20 : dt16 7 3 = dt8 7 3 := hF18 7 (by decide) 3
                rcases h15 with ⟨rfl, h15⟩
                have r21 := fun (j : Nat) (hj : (j : Int) < 5 * dt 7 3) => (hF18 8 (by decide) j).trans (h7_3 j hj)
                have r22 := (hF18 8 (by decide) _).trans h7_4
                have r23 := (hF18 8 (by decide) _).trans h7_5
                have r24 := (hF18 8 (by decide) _).trans h7_6
                have r25 := (hF18 8 (by decide) _).trans h7_7
                have r26 := (hF18 8 (by decide) _).trans h7_8
                have Q27 : QOC (dt16 8) (dt16 7 3) := by rw [show dt16 8 = dt8 8 from funext (hF18 8 (by decide)), show dt16 7 3 = dt 7 3 + 1 by first | with_reducible assumption | exact unhid (by with_reducible assumption) | omega]; exact Q12
                have K28 : ∀ j : Nat, dt16 9 j = dt 9 j := fun j => (hF18 9 (by decide) j).trans ((fun j => hF10 9 (by decide) j) j)
                have W29 : WOK 24 (VC 44 dt16) := by rw [h15]; exact hok_ ⟨by omega, by omega⟩
                refine go_toq PM75 (k := 2) (pc' := 131) (L' := [some (.inr (.inr (some 0))), some (.inl p1), some (.inl p2), some (.inl p3), some (.inl p4), some (.inl p5), some (.inl 0), some (.inl 1), some (.inl v_h7)]) (st' := [.inl v_h7, .inr (.inr (some 0))]) (w' := (SH, dt16)) rfl ?_
                refine go_callq PM75 PM114 (Q' := _) rfl rfl rfl rfl (sp_X5_settle_f L xs sio (d + 0) dt16 hI17  v_h7 (by first | exact bnd h7r (by decide) (by decide) | exact ⟨by omega, by omega⟩) (by first | exact True.intro | with_reducible assumption | exact unhid (by with_reducible assumption) | rfl | omega | trivial | assumption | exact C13 | exact Q27 | exact W29) (by first | exact True.intro | with_reducible assumption | exact unhid (by with_reducible assumption) | rfl | fail | trivial | assumption | exact C13 | exact Q27 | exact W29) (by first | exact True.intro | with_reducible assumption | exact unhid (by with_reducible assumption) | rfl | fail | trivial | assumption | exact C13 | exact Q27 | exact W29)) ?_
                rintro _ _ ⟨dt31, rfl, hI32, hF33, h30⟩
                refine ⟨rfl, ?_⟩
                have hF34 : Fr [7, 8, 9, 44, 45, 46, 47, 48, 49, 50, 51, 52, 53, 54, 55, 56] dt dt31 := Fr_tr hF19 hF33 (by decide)
                have w35 : dt31 7 3 = dt16 7 3 := hF33 7 (by decide) 3
                rcases h30 with ⟨rfl, h30⟩
                obtain ⟨h30_0, h30_1⟩ := h30
                have r36 := fun (j : Nat) (hj : (j : Int) < 5 * dt 7 3) => (hF33 8 (by decide) j).trans (r21 j hj)
                have r37 := (hF33 8 (by decide) _).trans r22
                have r38 := (hF33 8 (by decide) _).trans r23
                have r39 := (hF33 8 (by decide) _).trans r24
                have r40 := (hF33 8 (by decide) _).trans r25
                have r41 := (hF33 8 (by decide) _).trans r26
                have s42 := h30_0
                rw [show (v_h7).toNat = (dt 7 3).toNat by first | with_reducible assumption | exact unhid (by with_reducible assumption) | omega, h15, show 5 * (dt 7 3).toNat + 1 = (((dt 7 3) * 5) + 1).toNat by first | with_reducible assumption | exact unhid (by with_reducible assumption) | omega, show 5 * (dt 7 3).toNat + 2 = (((dt 7 3) * 5) + 2).toNat by first | with_reducible assumption | exact unhid (by with_reducible assumption) | omega, show 5 * (dt 7 3).toNat + 3 = (((dt 7 3) * 5) + 3).toNat by first | with_reducible assumption | exact unhid (by with_reducible assumption) | omega, show 5 * (dt 7 3).toNat + 4 = (((dt 7 3) * 5) + 4).toNat by first | with_reducible assumption | exact unhid (by with_reducible assumption) | omega, (hF33 8 (by decide) _).symm.trans r38, (hF33 8 (by decide) _).symm.trans r39, (hF33 8 (by decide) _).symm.trans r40, (hF33 8 (by decide) _).symm.trans r41] at s42
                have K43 : ∀ j : Nat, j < 11 * (dt 7 3).toNat → dt31 9 j = dt 9 j := fun j hj => (h30_1 j (by omega)).trans (K28 j)
                refine go_retq PM75 (k := 1) (r := some (.inl v_h7)) (w1 := (SH, dt31)) rfl ?_
                exact ⟨dt31, rfl, hI32, hF34, (Or.inr ⟨_, rfl, (by first | exact bnd h7r (by decide) (by decide) | exact ⟨by fail, by fail⟩), ⟨by first | exact True.intro | with_reducible assumption | exact unhid (by with_reducible assumption) | rfl | fail | trivial, by first | exact True.intro | with_reducible assumption | exact unhid (by with_reducible assumption) | rfl | omega | trivial, by first | exact True.intro | with_reducible assumption | exact unhid (by with_reducible assumption) | rfl | omega | trivial, by exact r36, by first | exact r37 | (rw [if_neg (by fail)]; exact r37) | (rw [if_pos (by fail)]; exact r37), by first | exact r38 | (rw [if_neg (by fail)]; exact r38) | (rw [if_pos (by fail)]; exact r38), by first | exact r39 | (rw [if_neg (by fail)]; exact r39) | (rw [if_pos (by fail)]; exact r39), by first | exact r40 | (rw [if_neg (by fail)]; exact r40) | (rw [if_pos (by fail)]; exact r40), by first | exact r41 | (rw [if_neg (by fail)]; exact r41) | (rw [if_pos (by omega)]; exact r41), by exact K43, by first | exact s42 | (rw [if_neg (by fail)]; exact s42) | (rw [if_pos (by omega)]; exact s42)⟩⟩)⟩
          · skip
            refine go_retq PM75 (k := 8) (r := some (.inl (-1))) (w1 := (SH, dt)) rfl ?_
            first | exact ⟨dt, rfl, hI, hF, (Or.inl ⟨rfl, ⟨by first | exact True.intro | with_reducible assumption | exact unhid (by with_reducible assumption) | rfl | omega | trivial, by first | exact True.intro | with_reducible assumption | exact unhid (by with_reducible assumption) | rfl | fail | trivial, by first | exact fun _ => rfl | exact hI, by first | exact fun _ => rfl | exact hI⟩⟩)⟩ | exact ⟨dt, rfl, hI, hF, (Or.inr ⟨_, rfl, ⟨by decide, by decide⟩, ⟨by first | exact True.intro | with_reducible assumption | exact unhid (by with_reducible assumption) | rfl | fail | trivial, by first | exact True.intro | with_reducible assumption | exact unhid (by with_reducible assumption) | rfl | fail | trivial, by first | exact True.intro | with_reducible assumption | exact unhid (by with_reducible assumption) | rfl | fail | trivial, by exact hI, by first | exact hI | (rw [if_neg (by fail)]; exact hI) | (rw [if_pos (by fail)]; exact hI), by first | exact hI | (rw [if_neg (by fail)]; exact hI) | (rw [if_pos (by fail)]; exact hI), by first | exact hI | (rw [if_neg (by fail)]; exact hI) | (rw [if_pos (by fail)]; exact hI), by first | exact hI | (rw [if_neg (by fail)]; exact hI) | (rw [if_pos (by fail)]; exact hI), by first | exact hI | (rw [if_neg (by fail)]; exact hI) | (rw [if_pos (by fail)]; exact hI), by exact hI, by first | exact hI | (rw [if_neg (by fail)]; exact hI) | (rw [if_pos (by fail)]; exact hI)⟩⟩)⟩
      · skip
        refine go_toq PM75 (k := 1) (pc' := 22) (L' := [some (.inr (.inr (some 0))), some (.inl p1), some (.inl p2), some (.inl p3), some (.inl p4), some (.inl p5), none, none, none]) (st' := [.inl p3]) (w' := (SH, dt)) rfl ?_
        refine go_callq PM75 PM105 (Q' := _) rfl rfl rfl rfl (sp_X5_isWho L xs sio (d + 3) dt hI  p3 (by first | exact h_p3 | exact bnd h_p3 (by decide) (by decide) | exact ⟨by fail, by fail⟩) ) ?_
        rintro _ _ ⟨rfl, h44⟩
        refine ⟨rfl, ?_⟩
        rcases h44 with ⟨rfl, h44⟩ | ⟨rfl, h44⟩
        · skip
          refine go_ifq PM75 (k := 3) (p1 := 42) (p2 := 34) (L' := [some (.inr (.inr (some 0))), some (.inl p1), some (.inl p2), some (.inl p3), some (.inl p4), some (.inl p5), none, none, none]) (st' := []) (w' := (SH, dt)) rfl (c_eq (a := p5) (b := (-1)) (by first | exact bnd h_p5 (by decide) (by decide) | exact ⟨by fail, by fail⟩) ⟨by decide, by decide⟩) (fun c45 => ?_) (fun c45 => ?_)
          · skip
            refine go_ifq PM75 (k := 2) (p1 := 52) (p2 := 48) (L' := [some (.inr (.inr (some 0))), some (.inl p1), some (.inl p2), some (.inl p3), some (.inl p4), some (.inl p5), none, none, none]) (st' := []) (w' := (SH, dt)) rfl (c_eq (a := p5) (b := p3) (by first | exact bnd h_p5 (by decide) (by decide) | exact ⟨by fail, by fail⟩) (by first | exact bnd h_p3 (by decide) (by decide) | exact ⟨by fail, by fail⟩)) (fun c46 => ?_) (fun c46 => ?_)
            · exfalso; omega
            · skip
              replace c46 := hid c46
              refine go_ifq PM75 (k := 5) (p1 := 73) (p2 := 60) (L' := [some (.inr (.inr (some 0))), some (.inl p1), some (.inl p2), some (.inl p3), some (.inl p4), some (.inl p5), some (.inl 1), none, none]) (st' := []) (w' := (SH, dt)) rfl (c_ne (a := p2) (b := 1) (by first | exact bnd h_p2 (by decide) (by decide) | exact ⟨by fail, by fail⟩) ⟨by decide, by decide⟩) (fun c47 => ?_) (fun c47 => ?_)
              · skip
                replace c47 := hid c47
                refine go_toq PM75 (k := 16) (pc' := 112) (L' := [some (.inr (.inr (some 0))), some (.inl p1), some (.inl p2), some (.inl p3), some (.inl p4), some (.inl p5), some (.inl 1), some (.inl 0), none]) (st' := [.inl 0, .inl p5, .inl p4, .inl p3, .inl p2, .inl p1, .inr (.inr (some 7))]) (w' := (SH, dt)) rfl ?_
                refine go_callq PM75 PM40 (Q' := _) rfl rfl rfl rfl (sp_X2_add_7f L xs sio (d + 3) dt hI  p1 (by first | exact h_p1 | exact bnd h_p1 (by decide) (by decide) | exact ⟨by omega, by omega⟩) p2 (by first | exact h_p2 | exact bnd h_p2 (by decide) (by decide) | exact ⟨by fail, by fail⟩) p3 (by first | exact h_p3 | exact bnd h_p3 (by decide) (by decide) | exact ⟨by fail, by fail⟩) p4 (by first | exact h_p4 | exact bnd h_p4 (by decide) (by decide) | exact ⟨by fail, by fail⟩) p5 (by first | exact h_p5 | exact bnd h_p5 (by decide) (by decide) | exact ⟨by fail, by fail⟩) 0 ⟨by decide, by decide⟩ ) ?_
                rintro _ _ ⟨dt49, rfl, hI50, hF51, h48⟩
                refine ⟨rfl, ?_⟩
                have hF52 : Fr [7, 8, 9, 44, 45, 46, 47, 48, 49, 50, 51, 52, 53, 54, 55, 56] dt dt49 := Fr_tr hF hF51 (by decide)
                rcases h48 with ⟨rfl, h48⟩ | ⟨v_h48, rfl, h48r, h48⟩
                · skip
                  obtain ⟨h48_0, h48_1, h48_2⟩ := h48
                  refine go_retq PM75 (k := 5) (r := some (.inl (-1))) (w1 := (SH, dt49)) rfl ?_
                  first | exact ⟨dt49, rfl, hI50, hF52, (Or.inl ⟨rfl, ⟨by first | exact True.intro | with_reducible assumption | exact unhid (by with_reducible assumption) | rfl | omega | trivial, by first | exact True.intro | with_reducible assumption | exact unhid (by with_reducible assumption) | rfl | fail | trivial, by first | exact fun _ => rfl | exact h48_2, by first | exact fun _ => rfl | exact (fun j => hF51 9 (by decide) j)⟩⟩)⟩ | exact ⟨dt49, rfl, hI50, hF52, (Or.inr ⟨_, rfl, ⟨by decide, by decide⟩, ⟨by first | exact True.intro | with_reducible assumption | exact unhid (by with_reducible assumption) | rfl | fail | trivial, by first | exact True.intro | with_reducible assumption | exact unhid (by with_reducible assumption) | rfl | fail | trivial, by first | exact True.intro | with_reducible assumption | exact unhid (by with_reducible assumption) | rfl | fail | trivial, by exact hI, by first | exact hI | (rw [if_neg (by fail)]; exact hI) | (rw [if_pos (by fail)]; exact hI), by first | exact hI | (rw [if_neg (by fail)]; exact hI) | (rw [if_pos (by fail)]; exact hI), by first | exact hI | (rw [if_neg (by fail)]; exact hI) | (rw [if_pos (by fail)]; exact hI), by first | exact hI | (rw [if_neg (by fail)]; exact hI) | (rw [if_pos (by fail)]; exact hI), by first | exact hI | (rw [if_neg (by fail)]; exact hI) | (rw [if_pos (by fail)]; exact hI), by exact hI, by first | exact hI | (rw [if_neg (by fail)]; exact hI) | (rw [if_pos (by fail)]; exact hI)⟩⟩)⟩
                · skip
                  obtain ⟨h48_0, h48_1, h48_2, h48_3, h48_4, h48_5, h48_6, h48_7, h48_8⟩ := h48
                  have Q53 : QOC (dt49 8) (dt 7 3 + 1) := QOC_a h_p1 (by omega) h48_3 h48_4 h48_5 h48_6 h48_7 h48_8 (by unfold qOC; omega)
                  have C54 : SCL (dt49 2) (dt49 3) F := by rw [show dt49 2 = dt 2 from funext (hF51 2 (by decide)), show dt49 3 = dt 3 from funext (hF51 3 (by decide))]; exact h_p0
                  refine go_ifq PM75 (k := 3) (p1 := 134) (p2 := 123) (L' := [some (.inr (.inr (some 0))), some (.inl p1), some (.inl p2), some (.inl p3), some (.inl p4), some (.inl p5), some (.inl 1), some (.inl 0), some (.inl v_h48)]) (st' := []) (w' := (SH, dt49)) rfl (c_eq (a := v_h48) (b := (-1)) (by first | exact bnd h48r (by decide) (by decide) | exact ⟨by fail, by fail⟩) ⟨by decide, by decide⟩) (fun c55 => ?_) (fun c55 => ?_)
                  · exfalso; omega
                  · skip
                    replace c55 := hid c55
                    refine go_toq PM75 (k := 2) (pc' := 125) (L' := [some (.inr (.inr (some 0))), some (.inl p1), some (.inl p2), some (.inl p3), some (.inl p4), some (.inl p5), some (.inl 1), some (.inl 0), some (.inl v_h48)]) (st' := [.inl p1, .inr (.inr (some 0))]) (w' := (SH, dt49)) rfl ?_
                    refine go_callq PM75 PM113 (Q' := _) rfl rfl rfl rfl (sp_X5_play_wF L xs sio (d + 0) dt49 hI50 F hMF p1 (by first | exact h_p1 | exact bnd h_p1 (by decide) (by decide) | exact ⟨by omega, by omega⟩) (by first | exact True.intro | with_reducible assumption | exact unhid (by with_reducible assumption) | rfl | fail | trivial | assumption | exact C54 | exact Q53 | exact hI)) ?_
                    rintro _ _ ⟨dt57, rfl, hI58, hF59, h56⟩
                    refine ⟨rfl, ?_⟩
                    have hF60 : Fr [7, 8, 9, 44, 45, 46, 47, 48, 49, 50, 51, 52, 53, 54, 55, 56] dt dt57 := Fr_tr hF52 hF59 (by decide)
                    have w61 : dt57 7 3 = dt49 7 3 := hF59 7 (by decide) 3
                    rcases h56 with ⟨rfl, h56⟩
                    have r62 := fun (j : Nat) (hj : (j : Int) < 5 * dt 7 3) => (hF59 8 (by decide) j).trans (h48_3 j hj)
                    have r63 := (hF59 8 (by decide) _).trans h48_4
                    have r64 := (hF59 8 (by decide) _).trans h48_5
                    have r65 := (hF59 8 (by decide) _).trans h48_6
                    have r66 := (hF59 8 (by decide) _).trans h48_7
                    have r67 := (hF59 8 (by decide) _).trans h48_8
                    have Q68 : QOC (dt57 8) (dt57 7 3) := by rw [show dt57 8 = dt49 8 from funext (hF59 8 (by decide)), show dt57 7 3 = dt 7 3 + 1 by first | with_reducible assumption | exact unhid (by with_reducible assumption) | omega]; exact Q53
                    have K69 : ∀ j : Nat, dt57 9 j = dt 9 j := fun j => (hF59 9 (by decide) j).trans ((fun j => hF51 9 (by decide) j) j)
                    have W70 : WOK 24 (VC 44 dt57) := by rw [h56]; exact hok_ ⟨by omega, by omega⟩
                    refine go_toq PM75 (k := 2) (pc' := 131) (L' := [some (.inr (.inr (some 0))), some (.inl p1), some (.inl p2), some (.inl p3), some (.inl p4), some (.inl p5), some (.inl 1), some (.inl 0), some (.inl v_h48)]) (st' := [.inl v_h48, .inr (.inr (some 0))]) (w' := (SH, dt57)) rfl ?_
                    refine go_callq PM75 PM114 (Q' := _) rfl rfl rfl rfl (sp_X5_settle_f L xs sio (d + 0) dt57 hI58  v_h48 (by first | exact bnd h48r (by decide) (by decide) | exact ⟨by omega, by omega⟩) (by first | exact True.intro | with_reducible assumption | exact unhid (by with_reducible assumption) | rfl | omega | trivial | assumption | exact C54 | exact Q68 | exact W70) (by first | exact True.intro | with_reducible assumption | exact unhid (by with_reducible assumption) | rfl | fail | trivial | assumption | exact C54 | exact Q68 | exact W70) (by first | exact True.intro | with_reducible assumption | exact unhid (by with_reducible assumption) | rfl | fail | trivial | assumption | exact C54 | exact Q68 | exact W70)) ?_
                    rintro _ _ ⟨dt72, rfl, hI73, hF74, h71⟩
                    refine ⟨rfl, ?_⟩
                    have hF75 : Fr [7, 8, 9, 44, 45, 46, 47, 48, 49, 50, 51, 52, 53, 54, 55, 56] dt dt72 := Fr_tr hF60 hF74 (by decide)
                    have w76 : dt72 7 3 = dt57 7 3 := hF74 7 (by decide) 3
                    rcases h71 with ⟨rfl, h71⟩
                    obtain ⟨h71_0, h71_1⟩ := h71
                    have r77 := fun (j : Nat) (hj : (j : Int) < 5 * dt 7 3) => (hF74 8 (by decide) j).trans (r62 j hj)
                    have r78 := (hF74 8 (by decide) _).trans r63
                    have r79 := (hF74 8 (by decide) _).trans r64
                    have r80 := (hF74 8 (by decide) _).trans r65
                    have r81 := (hF74 8 (by decide) _).trans r66
                    have r82 := (hF74 8 (by decide) _).trans r67
                    have s83 := h71_0
                    rw [show (v_h48).toNat = (dt 7 3).toNat by first | with_reducible assumption | exact unhid (by with_reducible assumption) | omega, h56, show 5 * (dt 7 3).toNat + 1 = (((dt 7 3) * 5) + 1).toNat by first | with_reducible assumption | exact unhid (by with_reducible assumption) | omega, show 5 * (dt 7 3).toNat + 2 = (((dt 7 3) * 5) + 2).toNat by first | with_reducible assumption | exact unhid (by with_reducible assumption) | omega, show 5 * (dt 7 3).toNat + 3 = (((dt 7 3) * 5) + 3).toNat by first | with_reducible assumption | exact unhid (by with_reducible assumption) | omega, show 5 * (dt 7 3).toNat + 4 = (((dt 7 3) * 5) + 4).toNat by first | with_reducible assumption | exact unhid (by with_reducible assumption) | omega, (hF74 8 (by decide) _).symm.trans r79, (hF74 8 (by decide) _).symm.trans r80, (hF74 8 (by decide) _).symm.trans r81, (hF74 8 (by decide) _).symm.trans r82] at s83
                    have K84 : ∀ j : Nat, j < 11 * (dt 7 3).toNat → dt72 9 j = dt 9 j := fun j hj => (h71_1 j (by omega)).trans (K69 j)
                    refine go_retq PM75 (k := 1) (r := some (.inl v_h48)) (w1 := (SH, dt72)) rfl ?_
                    exact ⟨dt72, rfl, hI73, hF75, (Or.inr ⟨_, rfl, (by first | exact bnd h48r (by decide) (by decide) | exact ⟨by fail, by fail⟩), ⟨by first | exact True.intro | with_reducible assumption | exact unhid (by with_reducible assumption) | rfl | fail | trivial, by first | exact True.intro | with_reducible assumption | exact unhid (by with_reducible assumption) | rfl | omega | trivial, by first | exact True.intro | with_reducible assumption | exact unhid (by with_reducible assumption) | rfl | omega | trivial, by exact r77, by first | exact r78 | (rw [if_neg (by fail)]; exact r78) | (rw [if_pos (by fail)]; exact r78), by first | exact r79 | (rw [if_neg (by fail)]; exact r79) | (rw [if_pos (by fail)]; exact r79), by first | exact r80 | (rw [if_neg (by fail)]; exact r80) | (rw [if_pos (by fail)]; exact r80), by first | exact r81 | (rw [if_neg (by fail)]; exact r81) | (rw [if_pos (by fail)]; exact r81), by first | exact r82 | (rw [if_neg (by omega)]; exact r82) | (rw [if_pos (by fail)]; exact r82), by exact K84, by first | exact s83 | (rw [if_neg (by omega)]; exact s83) | (rw [if_pos (by fail)]; exact s83)⟩⟩)⟩
              · exfalso; omega
          · skip
            replace c45 := hid c45
            refine go_toq PM75 (k := 1) (pc' := 36) (L' := [some (.inr (.inr (some 0))), some (.inl p1), some (.inl p2), some (.inl p3), some (.inl p4), some (.inl p5), none, none, none]) (st' := [.inl p5]) (w' := (SH, dt)) rfl ?_
            refine go_callq PM75 PM105 (Q' := _) rfl rfl rfl rfl (sp_X5_isWho L xs sio (d + 3) dt hI  p5 (by first | exact h_p5 | exact bnd h_p5 (by decide) (by decide) | exact ⟨by fail, by fail⟩) ) ?_
            rintro _ _ ⟨rfl, h85⟩
            refine ⟨rfl, ?_⟩
            rcases h85 with ⟨rfl, h85⟩ | ⟨rfl, h85⟩
            · skip
              refine go_ifq PM75 (k := 3) (p1 := 52) (p2 := 48) (L' := [some (.inr (.inr (some 0))), some (.inl p1), some (.inl p2), some (.inl p3), some (.inl p4), some (.inl p5), none, none, none]) (st' := []) (w' := (SH, dt)) rfl (c_eq (a := p5) (b := p3) (by first | exact bnd h_p5 (by decide) (by decide) | exact ⟨by fail, by fail⟩) (by first | exact bnd h_p3 (by decide) (by decide) | exact ⟨by fail, by fail⟩)) (fun c86 => ?_) (fun c86 => ?_)
              · skip
                refine go_ifq PM75 (k := 4) (p1 := 73) (p2 := 60) (L' := [some (.inr (.inr (some 0))), some (.inl p1), some (.inl p2), some (.inl p3), some (.inl p4), some (.inl p5), some (.inl 0), none, none]) (st' := []) (w' := (SH, dt)) rfl (c_ne (a := p2) (b := 1) (by first | exact bnd h_p2 (by decide) (by decide) | exact ⟨by fail, by fail⟩) ⟨by decide, by decide⟩) (fun c87 => ?_) (fun c87 => ?_)
                · skip
                  replace c87 := hid c87
                  refine go_retq PM75 (k := 7) (r := some (.inl (-1))) (w1 := (SH, dt)) rfl ?_
                  first | exact ⟨dt, rfl, hI, hF, (Or.inl ⟨rfl, ⟨by first | exact True.intro | with_reducible assumption | exact unhid (by with_reducible assumption) | rfl | omega | trivial, by first | exact True.intro | with_reducible assumption | exact unhid (by with_reducible assumption) | rfl | fail | trivial, by first | exact fun _ => rfl | exact hI, by first | exact fun _ => rfl | exact hI⟩⟩)⟩ | exact ⟨dt, rfl, hI, hF, (Or.inr ⟨_, rfl, ⟨by decide, by decide⟩, ⟨by first | exact True.intro | with_reducible assumption | exact unhid (by with_reducible assumption) | rfl | fail | trivial, by first | exact True.intro | with_reducible assumption | exact unhid (by with_reducible assumption) | rfl | fail | trivial, by first | exact True.intro | with_reducible assumption | exact unhid (by with_reducible assumption) | rfl | fail | trivial, by exact hI, by first | exact hI | (rw [if_neg (by fail)]; exact hI) | (rw [if_pos (by fail)]; exact hI), by first | exact hI | (rw [if_neg (by fail)]; exact hI) | (rw [if_pos (by fail)]; exact hI), by first | exact hI | (rw [if_neg (by fail)]; exact hI) | (rw [if_pos (by fail)]; exact hI), by first | exact hI | (rw [if_neg (by fail)]; exact hI) | (rw [if_pos (by fail)]; exact hI), by first | exact hI | (rw [if_neg (by fail)]; exact hI) | (rw [if_pos (by fail)]; exact hI), by exact hI, by first | exact hI | (rw [if_neg (by fail)]; exact hI) | (rw [if_pos (by fail)]; exact hI)⟩⟩)⟩
                · exfalso; omega
              · skip
                replace c86 := hid c86
                refine go_ifq PM75 (k := 5) (p1 := 73) (p2 := 60) (L' := [some (.inr (.inr (some 0))), some (.inl p1), some (.inl p2), some (.inl p3), some (.inl p4), some (.inl p5), some (.inl 1), none, none]) (st' := []) (w' := (SH, dt)) rfl (c_ne (a := p2) (b := 1) (by first | exact bnd h_p2 (by decide) (by decide) | exact ⟨by fail, by fail⟩) ⟨by decide, by decide⟩) (fun c88 => ?_) (fun c88 => ?_)
                · skip
                  replace c88 := hid c88
                  refine go_toq PM75 (k := 16) (pc' := 112) (L' := [some (.inr (.inr (some 0))), some (.inl p1), some (.inl p2), some (.inl p3), some (.inl p4), some (.inl p5), some (.inl 1), some (.inl 0), none]) (st' := [.inl 0, .inl p5, .inl p4, .inl p3, .inl p2, .inl p1, .inr (.inr (some 7))]) (w' := (SH, dt)) rfl ?_
                  refine go_callq PM75 PM40 (Q' := _) rfl rfl rfl rfl (sp_X2_add_7f L xs sio (d + 3) dt hI  p1 (by first | exact h_p1 | exact bnd h_p1 (by decide) (by decide) | exact ⟨by omega, by omega⟩) p2 (by first | exact h_p2 | exact bnd h_p2 (by decide) (by decide) | exact ⟨by fail, by fail⟩) p3 (by first | exact h_p3 | exact bnd h_p3 (by decide) (by decide) | exact ⟨by fail, by fail⟩) p4 (by first | exact h_p4 | exact bnd h_p4 (by decide) (by decide) | exact ⟨by fail, by fail⟩) p5 (by first | exact h_p5 | exact bnd h_p5 (by decide) (by decide) | exact ⟨by fail, by fail⟩) 0 ⟨by decide, by decide⟩ ) ?_
                  rintro _ _ ⟨dt90, rfl, hI91, hF92, h89⟩
                  refine ⟨rfl, ?_⟩
                  have hF93 : Fr [7, 8, 9, 44, 45, 46, 47, 48, 49, 50, 51, 52, 53, 54, 55, 56] dt dt90 := Fr_tr hF hF92 (by decide)
                  rcases h89 with ⟨rfl, h89⟩ | ⟨v_h89, rfl, h89r, h89⟩
                  · skip
                    obtain ⟨h89_0, h89_1, h89_2⟩ := h89
                    refine go_retq PM75 (k := 5) (r := some (.inl (-1))) (w1 := (SH, dt90)) rfl ?_
                    first | exact ⟨dt90, rfl, hI91, hF93, (Or.inl ⟨rfl, ⟨by first | exact True.intro | with_reducible assumption | exact unhid (by with_reducible assumption) | rfl | omega | trivial, by first | exact True.intro | with_reducible assumption | exact unhid (by with_reducible assumption) | rfl | fail | trivial, by first | exact fun _ => rfl | exact h89_2, by first | exact fun _ => rfl | exact (fun j => hF92 9 (by decide) j)⟩⟩)⟩ | exact ⟨dt90, rfl, hI91, hF93, (Or.inr ⟨_, rfl, ⟨by decide, by decide⟩, ⟨by first | exact True.intro | with_reducible assumption | exact unhid (by with_reducible assumption) | rfl | fail | trivial, by first | exact True.intro | with_reducible assumption | exact unhid (by with_reducible assumption) | rfl | fail | trivial, by first | exact True.intro | with_reducible assumption | exact unhid (by with_reducible assumption) | rfl | fail | trivial, by exact hI, by first | exact hI | (rw [if_neg (by fail)]; exact hI) | (rw [if_pos (by fail)]; exact hI), by first | exact hI | (rw [if_neg (by fail)]; exact hI) | (rw [if_pos (by fail)]; exact hI), by first | exact hI | (rw [if_neg (by fail)]; exact hI) | (rw [if_pos (by fail)]; exact hI), by first | exact hI | (rw [if_neg (by fail)]; exact hI) | (rw [if_pos (by fail)]; exact hI), by first | exact hI | (rw [if_neg (by fail)]; exact hI) | (rw [if_pos (by fail)]; exact hI), by exact hI, by first | exact hI | (rw [if_neg (by fail)]; exact hI) | (rw [if_pos (by fail)]; exact hI)⟩⟩)⟩
                  · skip
                    obtain ⟨h89_0, h89_1, h89_2, h89_3, h89_4, h89_5, h89_6, h89_7, h89_8⟩ := h89
                    have Q94 : QOC (dt90 8) (dt 7 3 + 1) := QOC_a h_p1 (by omega) h89_3 h89_4 h89_5 h89_6 h89_7 h89_8 (by unfold qOC; omega)
                    have C95 : SCL (dt90 2) (dt90 3) F := by rw [show dt90 2 = dt 2 from funext (hF92 2 (by decide)), show dt90 3 = dt 3 from funext (hF92 3 (by decide))]; exact h_p0
                    refine go_ifq PM75 (k := 3) (p1 := 134) (p2 := 123) (L' := [some (.inr (.inr (some 0))), some (.inl p1), some (.inl p2), some (.inl p3), some (.inl p4), some (.inl p5), some (.inl 1), some (.inl 0), some (.inl v_h89)]) (st' := []) (w' := (SH, dt90)) rfl (c_eq (a := v_h89) (b := (-1)) (by first | exact bnd h89r (by decide) (by decide) | exact ⟨by fail, by fail⟩) ⟨by decide, by decide⟩) (fun c96 => ?_) (fun c96 => ?_)
                    · exfalso; omega
                    · skip
                      replace c96 := hid c96
                      refine go_toq PM75 (k := 2) (pc' := 125) (L' := [some (.inr (.inr (some 0))), some (.inl p1), some (.inl p2), some (.inl p3), some (.inl p4), some (.inl p5), some (.inl 1), some (.inl 0), some (.inl v_h89)]) (st' := [.inl p1, .inr (.inr (some 0))]) (w' := (SH, dt90)) rfl ?_
                      refine go_callq PM75 PM113 (Q' := _) rfl rfl rfl rfl (sp_X5_play_wF L xs sio (d + 0) dt90 hI91 F hMF p1 (by first | exact h_p1 | exact bnd h_p1 (by decide) (by decide) | exact ⟨by omega, by omega⟩) (by first | exact True.intro | with_reducible assumption | exact unhid (by with_reducible assumption) | rfl | fail | trivial | assumption | exact C95 | exact Q94 | exact hI)) ?_
                      rintro _ _ ⟨dt98, rfl, hI99, hF100, h97⟩
                      refine ⟨rfl, ?_⟩
                      have hF101 : Fr [7, 8, 9, 44, 45, 46, 47, 48, 49, 50, 51, 52, 53, 54, 55, 56] dt dt98 := Fr_tr hF93 hF100 (by decide)
                      have w102 : dt98 7 3 = dt90 7 3 := hF100 7 (by decide) 3
                      rcases h97 with ⟨rfl, h97⟩
                      have r103 := fun (j : Nat) (hj : (j : Int) < 5 * dt 7 3) => (hF100 8 (by decide) j).trans (h89_3 j hj)
                      have r104 := (hF100 8 (by decide) _).trans h89_4
                      have r105 := (hF100 8 (by decide) _).trans h89_5
                      have r106 := (hF100 8 (by decide) _).trans h89_6
                      have r107 := (hF100 8 (by decide) _).trans h89_7
                      have r108 := (hF100 8 (by decide) _).trans h89_8
                      have Q109 : QOC (dt98 8) (dt98 7 3) := by rw [show dt98 8 = dt90 8 from funext (hF100 8 (by decide)), show dt98 7 3 = dt 7 3 + 1 by first | with_reducible assumption | exact unhid (by with_reducible assumption) | omega]; exact Q94
                      have K110 : ∀ j : Nat, dt98 9 j = dt 9 j := fun j => (hF100 9 (by decide) j).trans ((fun j => hF92 9 (by decide) j) j)
                      have W111 : WOK 24 (VC 44 dt98) := by rw [h97]; exact hok_ ⟨by omega, by omega⟩
                      refine go_toq PM75 (k := 2) (pc' := 131) (L' := [some (.inr (.inr (some 0))), some (.inl p1), some (.inl p2), some (.inl p3), some (.inl p4), some (.inl p5), some (.inl 1), some (.inl 0), some (.inl v_h89)]) (st' := [.inl v_h89, .inr (.inr (some 0))]) (w' := (SH, dt98)) rfl ?_
                      refine go_callq PM75 PM114 (Q' := _) rfl rfl rfl rfl (sp_X5_settle_f L xs sio (d + 0) dt98 hI99  v_h89 (by first | exact bnd h89r (by decide) (by decide) | exact ⟨by omega, by omega⟩) (by first | exact True.intro | with_reducible assumption | exact unhid (by with_reducible assumption) | rfl | omega | trivial | assumption | exact C95 | exact Q109 | exact W111) (by first | exact True.intro | with_reducible assumption | exact unhid (by with_reducible assumption) | rfl | fail | trivial | assumption | exact C95 | exact Q109 | exact W111) (by first | exact True.intro | with_reducible assumption | exact unhid (by with_reducible assumption) | rfl | fail | trivial | assumption | exact C95 | exact Q109 | exact W111)) ?_
                      rintro _ _ ⟨dt113, rfl, hI114, hF115, h112⟩
                      refine ⟨rfl, ?_⟩
                      have hF116 : Fr [7, 8, 9, 44, 45, 46, 47, 48, 49, 50, 51, 52, 53, 54, 55, 56] dt dt113 := Fr_tr hF101 hF115 (by decide)
                      have w117 : dt113 7 3 = dt98 7 3 := hF115 7 (by decide) 3
                      rcases h112 with ⟨rfl, h112⟩
                      obtain ⟨h112_0, h112_1⟩ := h112
                      have r118 := fun (j : Nat) (hj : (j : Int) < 5 * dt 7 3) => (hF115 8 (by decide) j).trans (r103 j hj)
                      have r119 := (hF115 8 (by decide) _).trans r104
                      have r120 := (hF115 8 (by decide) _).trans r105
                      have r121 := (hF115 8 (by decide) _).trans r106
                      have r122 := (hF115 8 (by decide) _).trans r107
                      have r123 := (hF115 8 (by decide) _).trans r108
                      have s124 := h112_0
                      rw [show (v_h89).toNat = (dt 7 3).toNat by first | with_reducible assumption | exact unhid (by with_reducible assumption) | omega, h97, show 5 * (dt 7 3).toNat + 1 = (((dt 7 3) * 5) + 1).toNat by first | with_reducible assumption | exact unhid (by with_reducible assumption) | omega, show 5 * (dt 7 3).toNat + 2 = (((dt 7 3) * 5) + 2).toNat by first | with_reducible assumption | exact unhid (by with_reducible assumption) | omega, show 5 * (dt 7 3).toNat + 3 = (((dt 7 3) * 5) + 3).toNat by first | with_reducible assumption | exact unhid (by with_reducible assumption) | omega, show 5 * (dt 7 3).toNat + 4 = (((dt 7 3) * 5) + 4).toNat by first | with_reducible assumption | exact unhid (by with_reducible assumption) | omega, (hF115 8 (by decide) _).symm.trans r120, (hF115 8 (by decide) _).symm.trans r121, (hF115 8 (by decide) _).symm.trans r122, (hF115 8 (by decide) _).symm.trans r123] at s124
                      have K125 : ∀ j : Nat, j < 11 * (dt 7 3).toNat → dt113 9 j = dt 9 j := fun j hj => (h112_1 j (by omega)).trans (K110 j)
                      refine go_retq PM75 (k := 1) (r := some (.inl v_h89)) (w1 := (SH, dt113)) rfl ?_
                      exact ⟨dt113, rfl, hI114, hF116, (Or.inr ⟨_, rfl, (by first | exact bnd h89r (by decide) (by decide) | exact ⟨by fail, by fail⟩), ⟨by first | exact True.intro | with_reducible assumption | exact unhid (by with_reducible assumption) | rfl | fail | trivial, by first | exact True.intro | with_reducible assumption | exact unhid (by with_reducible assumption) | rfl | (have z_ := unhid c86; omega) | trivial, by first | exact True.intro | with_reducible assumption | exact unhid (by with_reducible assumption) | rfl | omega | trivial, by exact r118, by first | exact r119 | (rw [if_neg (by fail)]; exact r119) | (rw [if_pos (by fail)]; exact r119), by first | exact r120 | (rw [if_neg (by fail)]; exact r120) | (rw [if_pos (by fail)]; exact r120), by first | exact r121 | (rw [if_neg (by fail)]; exact r121) | (rw [if_pos (by fail)]; exact r121), by first | exact r122 | (rw [if_neg (by fail)]; exact r122) | (rw [if_pos (by fail)]; exact r122), by first | exact r123 | (rw [if_neg (by omega)]; exact r123) | (rw [if_pos (by fail)]; exact r123), by exact K125, by first | exact s124 | (rw [if_neg (by omega)]; exact s124) | (rw [if_pos (by fail)]; exact s124)⟩⟩)⟩
                · exfalso; omega
            · skip
              refine go_ifq PM75 (k := 5) (p1 := 73) (p2 := 60) (L' := [some (.inr (.inr (some 0))), some (.inl p1), some (.inl p2), some (.inl p3), some (.inl p4), some (.inl p5), some (.inl 0), none, none]) (st' := []) (w' := (SH, dt)) rfl (c_ne (a := p2) (b := 1) (by first | exact bnd h_p2 (by decide) (by decide) | exact ⟨by fail, by fail⟩) ⟨by decide, by decide⟩) (fun c126 => ?_) (fun c126 => ?_)
              · skip
                replace c126 := hid c126
                refine go_retq PM75 (k := 7) (r := some (.inl (-1))) (w1 := (SH, dt)) rfl ?_
                first | exact ⟨dt, rfl, hI, hF, (Or.inl ⟨rfl, ⟨by first | exact True.intro | with_reducible assumption | exact unhid (by with_reducible assumption) | rfl | (have z_ := unhid c45; omega) | trivial, by first | exact True.intro | with_reducible assumption | exact unhid (by with_reducible assumption) | rfl | fail | trivial, by first | exact fun _ => rfl | exact hI, by first | exact fun _ => rfl | exact hI⟩⟩)⟩ | exact ⟨dt, rfl, hI, hF, (Or.inr ⟨_, rfl, ⟨by decide, by decide⟩, ⟨by first | exact True.intro | with_reducible assumption | exact unhid (by with_reducible assumption) | rfl | fail | trivial, by first | exact True.intro | with_reducible assumption | exact unhid (by with_reducible assumption) | rfl | fail | trivial, by first | exact True.intro | with_reducible assumption | exact unhid (by with_reducible assumption) | rfl | fail | trivial, by exact hI, by first | exact hI | (rw [if_neg (by fail)]; exact hI) | (rw [if_pos (by fail)]; exact hI), by first | exact hI | (rw [if_neg (by fail)]; exact hI) | (rw [if_pos (by fail)]; exact hI), by first | exact hI | (rw [if_neg (by fail)]; exact hI) | (rw [if_pos (by fail)]; exact hI), by first | exact hI | (rw [if_neg (by fail)]; exact hI) | (rw [if_pos (by fail)]; exact hI), by first | exact hI | (rw [if_neg (by fail)]; exact hI) | (rw [if_pos (by fail)]; exact hI), by exact hI, by first | exact hI | (rw [if_neg (by fail)]; exact hI) | (rw [if_pos (by fail)]; exact hI)⟩⟩)⟩
              · exfalso; omega
        · skip
          refine go_ifq PM75 (k := 5) (p1 := 73) (p2 := 60) (L' := [some (.inr (.inr (some 0))), some (.inl p1), some (.inl p2), some (.inl p3), some (.inl p4), some (.inl p5), some (.inl 0), none, none]) (st' := []) (w' := (SH, dt)) rfl (c_ne (a := p2) (b := 1) (by first | exact bnd h_p2 (by decide) (by decide) | exact ⟨by fail, by fail⟩) ⟨by decide, by decide⟩) (fun c127 => ?_) (fun c127 => ?_)
          · skip
            replace c127 := hid c127
            refine go_retq PM75 (k := 7) (r := some (.inl (-1))) (w1 := (SH, dt)) rfl ?_
            first | exact ⟨dt, rfl, hI, hF, (Or.inl ⟨rfl, ⟨by first | exact True.intro | with_reducible assumption | exact unhid (by with_reducible assumption) | rfl | omega | trivial, by first | exact True.intro | with_reducible assumption | exact unhid (by with_reducible assumption) | rfl | fail | trivial, by first | exact fun _ => rfl | exact hI, by first | exact fun _ => rfl | exact hI⟩⟩)⟩ | exact ⟨dt, rfl, hI, hF, (Or.inr ⟨_, rfl, ⟨by decide, by decide⟩, ⟨by first | exact True.intro | with_reducible assumption | exact unhid (by with_reducible assumption) | rfl | fail | trivial, by first | exact True.intro | with_reducible assumption | exact unhid (by with_reducible assumption) | rfl | fail | trivial, by first | exact True.intro | with_reducible assumption | exact unhid (by with_reducible assumption) | rfl | fail | trivial, by exact hI, by first | exact hI | (rw [if_neg (by fail)]; exact hI) | (rw [if_pos (by fail)]; exact hI), by first | exact hI | (rw [if_neg (by fail)]; exact hI) | (rw [if_pos (by fail)]; exact hI), by first | exact hI | (rw [if_neg (by fail)]; exact hI) | (rw [if_pos (by fail)]; exact hI), by first | exact hI | (rw [if_neg (by fail)]; exact hI) | (rw [if_pos (by fail)]; exact hI), by first | exact hI | (rw [if_neg (by fail)]; exact hI) | (rw [if_pos (by fail)]; exact hI), by exact hI, by first | exact hI | (rw [if_neg (by fail)]; exact hI) | (rw [if_pos (by fail)]; exact hI)⟩⟩)⟩
          · exfalso; omega
    · skip
      refine go_retq PM75 (k := 2) (r := some (.inl (-1))) (w1 := (SH, dt)) rfl ?_
      first | exact ⟨dt, rfl, hI, hF, (Or.inl ⟨rfl, ⟨by first | exact True.intro | with_reducible assumption | rfl | omega | trivial, by first | exact True.intro | with_reducible assumption | rfl | fail | trivial, by first | exact fun _ => rfl | exact hI, by first | exact fun _ => rfl | exact hI⟩⟩)⟩ | exact ⟨dt, rfl, hI, hF, (Or.inr ⟨_, rfl, ⟨by decide, by decide⟩, ⟨by first | exact True.intro | with_reducible assumption | rfl | fail | trivial, by first | exact True.intro | with_reducible assumption | rfl | fail | trivial, by first | exact True.intro | with_reducible assumption | rfl | fail | trivial, by exact hI, by first | exact hI | (rw [if_neg (by fail)]; exact hI) | (rw [if_pos (by fail)]; exact hI), by first | exact hI | (rw [if_neg (by fail)]; exact hI) | (rw [if_pos (by fail)]; exact hI), by first | exact hI | (rw [if_neg (by fail)]; exact hI) | (rw [if_pos (by fail)]; exact hI), by first | exact hI | (rw [if_neg (by fail)]; exact hI) | (rw [if_pos (by fail)]; exact hI), by first | exact hI | (rw [if_neg (by fail)]; exact hI) | (rw [if_pos (by fail)]; exact hI), by exact hI, by first | exact hI | (rw [if_neg (by fail)]; exact hI) | (rw [if_pos (by fail)]; exact hI)⟩⟩)⟩
  · skip
    refine go_retq PM75 (k := 2) (r := some (.inl (-1))) (w1 := (SH, dt)) rfl ?_
    first | exact ⟨dt, rfl, hI, hF, (Or.inl ⟨rfl, ⟨by first | exact True.intro | with_reducible assumption | rfl | omega | trivial, by first | exact True.intro | with_reducible assumption | rfl | fail | trivial, by first | exact fun _ => rfl | exact hI, by first | exact fun _ => rfl | exact hI⟩⟩)⟩ | exact ⟨dt, rfl, hI, hF, (Or.inr ⟨_, rfl, ⟨by decide, by decide⟩, ⟨by first | exact True.intro | with_reducible assumption | rfl | fail | trivial, by first | exact True.intro | with_reducible assumption | rfl | fail | trivial, by first | exact True.intro | with_reducible assumption | rfl | fail | trivial, by exact hI, by first | exact hI | (rw [if_neg (by fail)]; exact hI) | (rw [if_pos (by fail)]; exact hI), by first | exact hI | (rw [if_neg (by fail)]; exact hI) | (rw [if_pos (by fail)]; exact hI), by first | exact hI | (rw [if_neg (by fail)]; exact hI) | (rw [if_pos (by fail)]; exact hI), by first | exact hI | (rw [if_neg (by fail)]; exact hI) | (rw [if_pos (by fail)]; exact hI), by first | exact hI | (rw [if_neg (by fail)]; exact hI) | (rw [if_pos (by fail)]; exact hI), by exact hI, by first | exact hI | (rw [if_neg (by fail)]; exact hI) | (rw [if_pos (by fail)]; exact hI)⟩⟩)⟩
set_option maxHeartbeats 8000000 in
theorem sp_X5_text_h (L : Nat) (xs : Nat → Int32) (sio : Option Nat) (d : Nat) (dt : Nat → Nat → Int) (hI : InvC dt) (hM : MW (dt 80))  (p1 : Int) (h_p1 : (-2147483648) ≤ p1 ∧ p1 ≤ 2147483647) (p2 : Int) (h_p2 : (-2147483648) ≤ p2 ∧ p2 ≤ 2147483647) (h_p0 : SCL (dt 2) (dt 3) (dt 80)) (h_p1 : QOC (dt 8) (dt 7 3)) : GO (am_XX L xs sio) (d + 23) 70 0 [some (.inr (.inr (some 0))), some (.inl p1), some (.inl p2), none, none, none] [] (SH, dt) (fun r w2 => ∃ dt2 : Nat → Nat → Int, w2 = (SH, dt2) ∧ InvC dt2 ∧ Fr [2, 3, 4, 5, 6, 9, 35, 37, 38, 39, 40, 41, 42, 44, 45, 46, 47, 48, 49, 50, 51, 52, 53, 54, 55, 56] dt dt2 ∧ ((∃ v : Int, r = some (.inl v) ∧ ((-1) ≤ v ∧ v ≤ 24) ∧ (dt2 35 1 = 0) ∧ (TRS p1 p2 (mB (fun j => am_and (dt 36 j) 255) (dt 35 1)) (dt 35 1).toNat v (dt2 35 2) (dt2 35 3)) ∧ (TSA p1 p2 (mB (fun j => am_and (dt 36 j) 255) (dt 35 1)) (dt 35 1).toNat (dt2 35 2) v (dt 2) (dt 3) (dt2 2) (dt2 3)) ∧ (dt2 7 3 = dt 7 3) ∧ (∀ j : Nat, dt2 8 j = dt 8 j) ∧ ((p1 = 0 ∧ (0 ≤ p2 ∧ p2 ≤ 7) ∧ dt2 35 2 = 0 → ∃ F : Nat → Int, MW F ∧ SCL (dt2 2) (dt2 3) F ∧ SAL (dt 9) (dt2 9) (dt 8) (wend F p2) p2 (dt 7 3)) ∧ (¬ (p1 = 0 ∧ (0 ≤ p2 ∧ p2 ≤ 7) ∧ dt2 35 2 = 0) → ∀ j : Nat, dt2 9 j = dt 9 j))))) := by
  have hF : Fr [2, 3, 4, 5, 6, 9, 35, 37, 38, 39, 40, 41, 42, 44, 45, 46, 47, 48, 49, 50, 51, 52, 53, 54, 55, 56] dt dt := Fr_refl
  have r1 : 0 ≤ dt 35 1 ∧ dt 35 1 ≤ 500 := InvC_get hI 35 1 rfl rfl
  have r2 : 0 ≤ dt 7 3 ∧ dt 7 3 ≤ 12 := InvC_get hI 7 3 rfl rfl
  refine go_ifq PM70 (k := 1) (p1 := 18) (p2 := 4) (L' := [some (.inr (.inr (some 0))), some (.inl p1), some (.inl p2), none, none, none]) (st' := []) (w' := (SH, dt)) rfl (z_ne (a := p1) (by first | exact bnd h_p1 (by decide) (by decide) | exact ⟨by omega, by omega⟩)) (fun c3 => ?_) (fun c3 => ?_)
  · skip
    replace c3 := hid c3
    refine go_ifq PM70 (k := 4) (p1 := 38) (p2 := 25) (L' := [some (.inr (.inr (some 0))), some (.inl p1), some (.inl p2), some (.inl 0), none, none]) (st' := []) (w' := (SH, dt)) rfl (c_ne (a := p1) (b := 1) (by first | exact bnd h_p1 (by decide) (by decide) | exact ⟨by (first | omega | (have z0_ := unhid c3; omega)), by (first | omega | (have z0_ := unhid c3; omega))⟩) ⟨by decide, by decide⟩) (fun c4 => ?_) (fun c4 => ?_)
    · skip
      replace c4 := hid c4
      refine go_toq PM70 (k := 7) (pc' := 56) (L' := [some (.inr (.inr (some 0))), some (.inl p1), some (.inl p2), some (.inl 0), some (.inl 0), none]) (st' := [.inr (.inr (some 1001)), .inr (.inr (some 35))]) (w' := (SH, dt)) rfl ?_
      refine go_callq PM70 PM9 (Q' := _) rfl rfl rfl rfl (sp_X1_start_1f L xs sio (d + 15) dt hI   ) ?_
      rintro _ _ ⟨dt6, rfl, hI7, hF8, h5⟩
      refine ⟨rfl, ?_⟩
      have hF9 : Fr [2, 3, 4, 5, 6, 9, 35, 37, 38, 39, 40, 41, 42, 44, 45, 46, 47, 48, 49, 50, 51, 52, 53, 54, 55, 56] dt dt6 := Fr_tr hF hF8 (by decide)
      have w10 : dt6 7 3 = dt 7 3 := hF8 7 (by decide) 3
      rcases h5 with ⟨rfl, h5⟩
      obtain ⟨h5_0, h5_1, h5_2, h5_3, h5_4, h5_5, h5_6⟩ := h5
      have tk11 := TOK_c h5_6
      have b712 : 0 ≤ dt6 35 7 ∧ dt6 35 7 ≤ 501 := InvC_get hI7 35 7 rfl rfl
      have c13 : ∀ j : Nat, dt6 2 j = dt 2 j := fun j => (hF8 2 (by decide) j).trans ((fun _ => rfl) j)
      have c14 : ∀ j : Nat, dt6 3 j = dt 3 j := fun j => (hF8 3 (by decide) j).trans ((fun _ => rfl) j)
      have c15 : ∀ j : Nat, dt6 8 j = dt 8 j := fun j => (hF8 8 (by decide) j).trans ((fun _ => rfl) j)
      have c16 : ∀ j : Nat, dt6 9 j = dt 9 j := fun j => (hF8 9 (by decide) j).trans ((fun _ => rfl) j)
      refine go_retq PM70 (k := 5) (r := some (.inl (-1))) (w1 := (SH, dt6)) rfl ?_
      exact ⟨dt6, rfl, hI7, hF9, ⟨_, rfl, ⟨by decide, by decide⟩, ⟨by first | exact True.intro | with_reducible assumption | exact unhid (by with_reducible assumption) | rfl | (first | omega | (have z0_ := unhid c3; have z1_ := unhid c4; omega)) | trivial, by first | exact TRS_y (by unfold okT; (first | omega | (have z0_ := unhid c3; have z1_ := unhid c4; omega))) rfl (by (first | omega | (have z0_ := unhid c3; have z1_ := unhid c4; omega))) (by (first | omega | (have z0_ := unhid c3; have z1_ := unhid c4; omega))) | exact TRS_t hI (by (first | omega | (have z0_ := unhid c3; have z1_ := unhid c4; omega))) (by unfold okT; (first | omega | (have z0_ := unhid c3; have z1_ := unhid c4; omega))) (by (first | omega | (have z0_ := unhid c3; have z1_ := unhid c4; omega))) (by (first | omega | (have z0_ := unhid c3; have z1_ := unhid c4; omega))) (by (first | omega | (have z0_ := unhid c3; have z1_ := unhid c4; omega))), by first | exact TSA_n (by (first | omega | (have z0_ := unhid c3; have z1_ := unhid c4; omega))) c13 c14 | exact TSA_v $tsa (by (first | omega | (have z0_ := unhid c3; have z1_ := unhid c4; omega))) (by (first | omega | (have z0_ := unhid c3; have z1_ := unhid c4; omega))), by first | exact True.intro | with_reducible assumption | exact unhid (by with_reducible assumption) | rfl | (first | omega | (have z0_ := unhid c3; have z1_ := unhid c4; omega)) | trivial, by exact c15, by first | exact ⟨fun z_ => absurd z_ (by (first | omega | (have z0_ := unhid c3; have z1_ := unhid c4; omega))), fun _ => c16⟩ | exact ⟨fun _ => ⟨_, hI.2, hI, hI⟩, fun z_ => absurd (show p1 = 0 ∧ (0 ≤ p2 ∧ p2 ≤ 7) ∧ _ from ⟨by (first | omega | (have z0_ := unhid c3; have z1_ := unhid c4; omega)), ⟨by (first | omega | (have z0_ := unhid c3; have z1_ := unhid c4; omega)), by (first | omega | (have z0_ := unhid c3; have z1_ := unhid c4; omega))⟩, by (first | omega | (have z0_ := unhid c3; have z1_ := unhid c4; omega))⟩) z_⟩⟩⟩⟩
    · skip
      refine go_toq PM70 (k := 3) (pc' := 28) (L' := [some (.inr (.inr (some 0))), some (.inl p1), some (.inl p2), some (.inl 0), none, none]) (st' := [.inl 3, .inl 0, .inl p2]) (w' := (SH, dt)) rfl ?_
      refine go_callq PM70 PM100 (Q' := _) rfl rfl rfl rfl (sp_X5_within L xs sio (d + 22) dt hI  p2 (by first | exact h_p2 | exact bnd h_p2 (by decide) (by decide) | exact ⟨by (first | omega | (have z0_ := unhid c3; omega)), by (first | omega | (have z0_ := unhid c3; omega))⟩) 0 ⟨by decide, by decide⟩ 3 ⟨by decide, by decide⟩ ) ?_
      rintro _ _ ⟨rfl, h17⟩
      refine ⟨rfl, ?_⟩
      rcases h17 with ⟨rfl, h17⟩ | ⟨rfl, h17⟩
      · skip
        refine go_toq PM70 (k := 9) (pc' := 56) (L' := [some (.inr (.inr (some 0))), some (.inl p1), some (.inl p2), some (.inl 0), some (.inl 1), none]) (st' := [.inr (.inr (some 1001)), .inr (.inr (some 35))]) (w' := (SH, dt)) rfl ?_
        refine go_callq PM70 PM9 (Q' := _) rfl rfl rfl rfl (sp_X1_start_1f L xs sio (d + 15) dt hI   ) ?_
        rintro _ _ ⟨dt19, rfl, hI20, hF21, h18⟩
        refine ⟨rfl, ?_⟩
        have hF22 : Fr [2, 3, 4, 5, 6, 9, 35, 37, 38, 39, 40, 41, 42, 44, 45, 46, 47, 48, 49, 50, 51, 52, 53, 54, 55, 56] dt dt19 := Fr_tr hF hF21 (by decide)
        have w23 : dt19 7 3 = dt 7 3 := hF21 7 (by decide) 3
        rcases h18 with ⟨rfl, h18⟩
        obtain ⟨h18_0, h18_1, h18_2, h18_3, h18_4, h18_5, h18_6⟩ := h18
        have tk24 := TOK_c h18_6
        have b725 : 0 ≤ dt19 35 7 ∧ dt19 35 7 ≤ 501 := InvC_get hI20 35 7 rfl rfl
        have c26 : ∀ j : Nat, dt19 2 j = dt 2 j := fun j => (hF21 2 (by decide) j).trans ((fun _ => rfl) j)
        have c27 : ∀ j : Nat, dt19 3 j = dt 3 j := fun j => (hF21 3 (by decide) j).trans ((fun _ => rfl) j)
        have c28 : ∀ j : Nat, dt19 8 j = dt 8 j := fun j => (hF21 8 (by decide) j).trans ((fun _ => rfl) j)
        have c29 : ∀ j : Nat, dt19 9 j = dt 9 j := fun j => (hF21 9 (by decide) j).trans ((fun _ => rfl) j)
        refine go_toq PM70 (k := 8) (pc' := 88) (L' := [some (.inr (.inr (some 0))), some (.inl p1), some (.inl p2), some (.inl 0), some (.inl 1), none]) (st' := [.inr (.inr (some 35))]) (w' := (SH, dt19)) rfl ?_
        refine go_callq PM70 PM28 (Q' := _) rfl rfl rfl rfl (sp_X1_readLaw_f L xs sio (d + 0) dt19 hI20 (KF 1 (mB (fun j => am_and (dt 36 j) 255) (dt 35 1)) (dt 35 1).toNat) (VF (mB (fun j => am_and (dt 36 j) 255) (dt 35 1)) (dt 35 1).toNat) (SF (mB (fun j => am_and (dt 36 j) 255) (dt 35 1)) (dt 35 1).toNat) (dt19 35 7 - 1).toNat tk24.2 (by (first | omega | (have z0_ := unhid c3; omega)))  (by first | exact True.intro | with_reducible assumption | exact unhid (by with_reducible assumption) | rfl | (first | omega | (have z0_ := unhid c3; omega)) | trivial | exact tk24.1 | exact hI.1 | (rw [show dt19 8 = dt 8 from funext c28, show dt19 7 3 = dt 7 3 by first | with_reducible assumption | exact unhid (by with_reducible assumption) | (first | omega | (have z0_ := unhid c3; omega))]; exact h_p1)) (by first | exact True.intro | with_reducible assumption | exact unhid (by with_reducible assumption) | rfl | (first | omega | (have z0_ := unhid c3; omega)) | trivial | exact tk24.1 | exact hI.1 | (rw [show dt19 8 = dt 8 from funext c28, show dt19 7 3 = dt 7 3 by first | with_reducible assumption | exact unhid (by with_reducible assumption) | (first | omega | (have z0_ := unhid c3; omega))]; exact h_p1)) (by first | exact True.intro | with_reducible assumption | exact unhid (by with_reducible assumption) | rfl | (first | omega | (have z0_ := unhid c3; omega)) | trivial | exact tk24.1 | exact hI.1 | (rw [show dt19 8 = dt 8 from funext c28, show dt19 7 3 = dt 7 3 by first | with_reducible assumption | exact unhid (by with_reducible assumption) | (first | omega | (have z0_ := unhid c3; omega))]; exact h_p1)) (by first | exact True.intro | with_reducible assumption | exact unhid (by with_reducible assumption) | rfl | (first | omega | (have z0_ := unhid c3; omega)) | trivial | exact tk24.1 | exact hI.1 | (rw [show dt19 8 = dt 8 from funext c28, show dt19 7 3 = dt 7 3 by first | with_reducible assumption | exact unhid (by with_reducible assumption) | (first | omega | (have z0_ := unhid c3; omega))]; exact h_p1)) (by first | exact True.intro | with_reducible assumption | exact unhid (by with_reducible assumption) | rfl | (first | omega | (have z0_ := unhid c3; omega)) | trivial | exact tk24.1 | exact hI.1 | (rw [show dt19 8 = dt 8 from funext c28, show dt19 7 3 = dt 7 3 by first | with_reducible assumption | exact unhid (by with_reducible assumption) | (first | omega | (have z0_ := unhid c3; omega))]; exact h_p1)) (by first | exact True.intro | with_reducible assumption | exact unhid (by with_reducible assumption) | rfl | (first | omega | (have z0_ := unhid c3; omega)) | trivial | exact tk24.1 | exact hI.1 | (rw [show dt19 8 = dt 8 from funext c28, show dt19 7 3 = dt 7 3 by first | with_reducible assumption | exact unhid (by with_reducible assumption) | (first | omega | (have z0_ := unhid c3; omega))]; exact h_p1))) ?_
        rintro _ _ ⟨dt31, rfl, hI32, hF33, h30⟩
        refine ⟨rfl, ?_⟩
        have hF34 : Fr [2, 3, 4, 5, 6, 9, 35, 37, 38, 39, 40, 41, 42, 44, 45, 46, 47, 48, 49, 50, 51, 52, 53, 54, 55, 56] dt dt31 := Fr_tr hF22 hF33 (by decide)
        have w35 : dt31 7 3 = dt19 7 3 := hF33 7 (by decide) 3
        rcases h30 with ⟨v_h30, rfl, h30r, h30⟩
        obtain ⟨h30_0, h30_1, h30_2, h30_3⟩ := h30
        have c36 : ∀ j : Nat, dt31 2 j = dt 2 j := fun j => (hF33 2 (by decide) j).trans (c26 j)
        have c37 : ∀ j : Nat, dt31 3 j = dt 3 j := fun j => (hF33 3 (by decide) j).trans (c27 j)
        have c38 : ∀ j : Nat, dt31 8 j = dt 8 j := fun j => (hF33 8 (by decide) j).trans (c28 j)
        have c39 : ∀ j : Nat, dt31 9 j = dt 9 j := fun j => (hF33 9 (by decide) j).trans (c29 j)
        have r40 : (-2147483648) ≤ dt31 35 2 ∧ dt31 35 2 ≤ 2147483647 := InvC_get hI32 35 2 rfl rfl
        refine go_ifq PM70 (k := 4) (p1 := 105) (p2 := 103) (L' := [some (.inr (.inr (some 0))), some (.inl p1), some (.inl p2), some (.inl 0), some (.inl 1), some (.inl v_h30)]) (st' := []) (w' := (SH, dt31)) rfl (z_eq (a := dt31 35 2) (by first | exact bnd r40 (by decide) (by decide) | exact ⟨by (first | omega | (have z0_ := unhid c3; omega)), by (first | omega | (have z0_ := unhid c3; omega))⟩)) (fun c41 => ?_) (fun c41 => ?_)
        · skip
          refine go_toq PM70 (k := 8) (pc' := 142) (L' := [some (.inr (.inr (some 0))), some (.inl p1), some (.inl p2), some (.inl 0), some (.inl 1), some (.inl v_h30)]) (st' := [.inl v_h30, .inr (.inr (some 35)), .inl p2, .inr (.inr (some 1))]) (w' := (SH, dt31)) rfl ?_
          refine go_callq PM70 PM3 (Q' := _) rfl rfl rfl rfl (sp_X0_takeLaw L xs sio (d + 20) dt31 hI32  p2 (by first | exact h_p2 | exact bnd h_p2 (by decide) (by decide) | exact ⟨by (first | omega | (have z0_ := unhid c3; omega)), by (first | omega | (have z0_ := unhid c3; omega))⟩) v_h30 (by first | exact bnd h30r (by decide) (by decide) | exact ⟨by (first | omega | (have z0_ := unhid c3; omega)), by (first | omega | (have z0_ := unhid c3; omega))⟩) ) ?_
          rintro _ _ ⟨dt43, rfl, hI44, hF45, h42⟩
          refine ⟨rfl, ?_⟩
          have hF46 : Fr [2, 3, 4, 5, 6, 9, 35, 37, 38, 39, 40, 41, 42, 44, 45, 46, 47, 48, 49, 50, 51, 52, 53, 54, 55, 56] dt dt43 := Fr_tr hF34 hF45 (by decide)
          have w47 : dt43 35 1 = dt31 35 1 := hF45 35 (by decide) 1
          have w48 : dt43 35 2 = dt31 35 2 := hF45 35 (by decide) 2
          have w49 : dt43 35 3 = dt31 35 3 := hF45 35 (by decide) 3
          have w50 : dt43 7 3 = dt31 7 3 := hF45 7 (by decide) 3
          rcases h42 with ⟨rfl, h42⟩
          have c51 : ∀ j : Nat, dt43 2 j = dt 2 j := fun j => (hF45 2 (by decide) j).trans (c36 j)
          have c52 : ∀ j : Nat, dt43 3 j = dt 3 j := fun j => (hF45 3 (by decide) j).trans (c37 j)
          have c53 : ∀ j : Nat, dt43 8 j = dt 8 j := fun j => (hF45 8 (by decide) j).trans (c38 j)
          have c54 : ∀ j : Nat, dt43 9 j = dt 9 j := fun j => (hF45 9 (by decide) j).trans (c39 j)
          refine go_retq PM70 (k := 1) (r := some (.inl v_h30)) (w1 := (SH, dt43)) rfl ?_
          exact ⟨dt43, rfl, hI44, hF46, ⟨_, rfl, (by first | exact bnd h30r (by decide) (by decide) | exact ⟨by (first | omega | (have z0_ := unhid c3; omega)), by (first | omega | (have z0_ := unhid c3; omega))⟩), ⟨by first | exact True.intro | with_reducible assumption | exact unhid (by with_reducible assumption) | rfl | (first | omega | (have z0_ := unhid c3; omega)) | trivial, by first | exact TRS_y (by unfold okT; (first | omega | (have z0_ := unhid c3; omega))) rfl (by (first | omega | (have z0_ := unhid c3; omega))) (by (first | omega | (have z0_ := unhid c3; omega))) | exact TRS_t h30_0 (by (first | omega | (have z0_ := unhid c3; omega))) (by unfold okT; (first | omega | (have z0_ := unhid c3; omega))) (by (first | omega | (have z0_ := unhid c3; omega))) (by (first | omega | (have z0_ := unhid c3; omega))) (by (first | omega | (have z0_ := unhid c3; omega))), by first | exact TSA_n (by (first | omega | (have z0_ := unhid c3; omega))) c51 c52 | exact TSA_v $tsa (by (first | omega | (have z0_ := unhid c3; omega))) (by (first | omega | (have z0_ := unhid c3; omega))), by first | exact True.intro | with_reducible assumption | exact unhid (by with_reducible assumption) | rfl | (first | omega | (have z0_ := unhid c3; omega)) | trivial, by exact c53, by first | exact ⟨fun z_ => absurd z_ (by (first | omega | (have z0_ := unhid c3; omega))), fun _ => c54⟩ | exact ⟨fun _ => ⟨_, hI.2, hI, hI⟩, fun z_ => absurd (show p1 = 0 ∧ (0 ≤ p2 ∧ p2 ≤ 7) ∧ _ from ⟨by (first | omega | (have z0_ := unhid c3; omega)), ⟨by (first | omega | (have z0_ := unhid c3; omega)), by (first | omega | (have z0_ := unhid c3; omega))⟩, by (first | omega | (have z0_ := unhid c3; omega))⟩) z_⟩⟩⟩⟩
        · skip
          replace c41 := hid c41
          refine go_retq PM70 (k := 1) (r := some (.inl (-1))) (w1 := (SH, dt31)) rfl ?_
          exact ⟨dt31, rfl, hI32, hF34, ⟨_, rfl, ⟨by decide, by decide⟩, ⟨by first | exact True.intro | with_reducible assumption | exact unhid (by with_reducible assumption) | rfl | (first | omega | (have z0_ := unhid c3; have z1_ := unhid c41; omega)) | trivial, by first | exact TRS_y (by unfold okT; (first | omega | (have z0_ := unhid c3; have z1_ := unhid c41; omega))) rfl (by (first | omega | (have z0_ := unhid c3; have z1_ := unhid c41; omega))) (by (first | omega | (have z0_ := unhid c3; have z1_ := unhid c41; omega))) | exact TRS_t h30_0 (by (first | omega | (have z0_ := unhid c3; have z1_ := unhid c41; omega))) (by unfold okT; (first | omega | (have z0_ := unhid c3; have z1_ := unhid c41; omega))) (by (first | omega | (have z0_ := unhid c3; have z1_ := unhid c41; omega))) (by (first | omega | (have z0_ := unhid c3; have z1_ := unhid c41; omega))) (by (first | omega | (have z0_ := unhid c3; have z1_ := unhid c41; omega))), by first | exact TSA_n (by (first | omega | (have z0_ := unhid c3; have z1_ := unhid c41; omega))) c36 c37 | exact TSA_v $tsa (by (first | omega | (have z0_ := unhid c3; have z1_ := unhid c41; omega))) (by (first | omega | (have z0_ := unhid c3; have z1_ := unhid c41; omega))), by first | exact True.intro | with_reducible assumption | exact unhid (by with_reducible assumption) | rfl | (first | omega | (have z0_ := unhid c3; have z1_ := unhid c41; omega)) | trivial, by exact c38, by first | exact ⟨fun z_ => absurd z_ (by (first | omega | (have z0_ := unhid c3; have z1_ := unhid c41; omega))), fun _ => c39⟩ | exact ⟨fun _ => ⟨_, hI.2, hI, hI⟩, fun z_ => absurd (show p1 = 0 ∧ (0 ≤ p2 ∧ p2 ≤ 7) ∧ _ from ⟨by (first | omega | (have z0_ := unhid c3; have z1_ := unhid c41; omega)), ⟨by (first | omega | (have z0_ := unhid c3; have z1_ := unhid c41; omega)), by (first | omega | (have z0_ := unhid c3; have z1_ := unhid c41; omega))⟩, by (first | omega | (have z0_ := unhid c3; have z1_ := unhid c41; omega))⟩) z_⟩⟩⟩⟩
      · skip
        refine go_toq PM70 (k := 8) (pc' := 56) (L' := [some (.inr (.inr (some 0))), some (.inl p1), some (.inl p2), some (.inl 0), some (.inl 0), none]) (st' := [.inr (.inr (some 1001)), .inr (.inr (some 35))]) (w' := (SH, dt)) rfl ?_
        refine go_callq PM70 PM9 (Q' := _) rfl rfl rfl rfl (sp_X1_start_1f L xs sio (d + 15) dt hI   ) ?_
        rintro _ _ ⟨dt56, rfl, hI57, hF58, h55⟩
        refine ⟨rfl, ?_⟩
        have hF59 : Fr [2, 3, 4, 5, 6, 9, 35, 37, 38, 39, 40, 41, 42, 44, 45, 46, 47, 48, 49, 50, 51, 52, 53, 54, 55, 56] dt dt56 := Fr_tr hF hF58 (by decide)
        have w60 : dt56 7 3 = dt 7 3 := hF58 7 (by decide) 3
        rcases h55 with ⟨rfl, h55⟩
        obtain ⟨h55_0, h55_1, h55_2, h55_3, h55_4, h55_5, h55_6⟩ := h55
        have tk61 := TOK_c h55_6
        have b762 : 0 ≤ dt56 35 7 ∧ dt56 35 7 ≤ 501 := InvC_get hI57 35 7 rfl rfl
        have c63 : ∀ j : Nat, dt56 2 j = dt 2 j := fun j => (hF58 2 (by decide) j).trans ((fun _ => rfl) j)
        have c64 : ∀ j : Nat, dt56 3 j = dt 3 j := fun j => (hF58 3 (by decide) j).trans ((fun _ => rfl) j)
        have c65 : ∀ j : Nat, dt56 8 j = dt 8 j := fun j => (hF58 8 (by decide) j).trans ((fun _ => rfl) j)
        have c66 : ∀ j : Nat, dt56 9 j = dt 9 j := fun j => (hF58 9 (by decide) j).trans ((fun _ => rfl) j)
        refine go_retq PM70 (k := 5) (r := some (.inl (-1))) (w1 := (SH, dt56)) rfl ?_
        exact ⟨dt56, rfl, hI57, hF59, ⟨_, rfl, ⟨by decide, by decide⟩, ⟨by first | exact True.intro | with_reducible assumption | exact unhid (by with_reducible assumption) | rfl | (first | omega | (have z0_ := unhid c3; omega)) | trivial, by first | exact TRS_y (by unfold okT; (first | omega | (have z0_ := unhid c3; omega))) rfl (by (first | omega | (have z0_ := unhid c3; omega))) (by (first | omega | (have z0_ := unhid c3; omega))) | exact TRS_t hI (by (first | omega | (have z0_ := unhid c3; omega))) (by unfold okT; (first | omega | (have z0_ := unhid c3; omega))) (by (first | omega | (have z0_ := unhid c3; omega))) (by (first | omega | (have z0_ := unhid c3; omega))) (by (first | omega | (have z0_ := unhid c3; omega))), by first | exact TSA_n (by (first | omega | (have z0_ := unhid c3; omega))) c63 c64 | exact TSA_v $tsa (by (first | omega | (have z0_ := unhid c3; omega))) (by (first | omega | (have z0_ := unhid c3; omega))), by first | exact True.intro | with_reducible assumption | exact unhid (by with_reducible assumption) | rfl | (first | omega | (have z0_ := unhid c3; omega)) | trivial, by exact c65, by first | exact ⟨fun z_ => absurd z_ (by (first | omega | (have z0_ := unhid c3; omega))), fun _ => c66⟩ | exact ⟨fun _ => ⟨_, hI.2, hI, hI⟩, fun z_ => absurd (show p1 = 0 ∧ (0 ≤ p2 ∧ p2 ≤ 7) ∧ _ from ⟨by (first | omega | (have z0_ := unhid c3; omega)), ⟨by (first | omega | (have z0_ := unhid c3; omega)), by (first | omega | (have z0_ := unhid c3; omega))⟩, by (first | omega | (have z0_ := unhid c3; omega))⟩) z_⟩⟩⟩⟩
  · skip
    refine go_toq PM70 (k := 3) (pc' := 8) (L' := [some (.inr (.inr (some 0))), some (.inl p1), some (.inl p2), none, none, none]) (st' := [.inl 7, .inl 0, .inl p2]) (w' := (SH, dt)) rfl ?_
    refine go_callq PM70 PM100 (Q' := _) rfl rfl rfl rfl (sp_X5_within L xs sio (d + 22) dt hI  p2 (by first | exact h_p2 | exact bnd h_p2 (by decide) (by decide) | exact ⟨by omega, by omega⟩) 0 ⟨by decide, by decide⟩ 7 ⟨by decide, by decide⟩ ) ?_
    rintro _ _ ⟨rfl, h67⟩
    refine ⟨rfl, ?_⟩
    rcases h67 with ⟨rfl, h67⟩ | ⟨rfl, h67⟩
    · skip
      refine go_ifq PM70 (k := 6) (p1 := 38) (p2 := 25) (L' := [some (.inr (.inr (some 0))), some (.inl p1), some (.inl p2), some (.inl 1), none, none]) (st' := []) (w' := (SH, dt)) rfl (c_ne (a := p1) (b := 1) (by first | exact bnd h_p1 (by decide) (by decide) | exact ⟨by omega, by omega⟩) ⟨by decide, by decide⟩) (fun c68 => ?_) (fun c68 => ?_)
      · skip
        replace c68 := hid c68
        refine go_toq PM70 (k := 8) (pc' := 56) (L' := [some (.inr (.inr (some 0))), some (.inl p1), some (.inl p2), some (.inl 1), some (.inl 0), none]) (st' := [.inr (.inr (some 1000)), .inr (.inr (some 35))]) (w' := (SH, dt)) rfl ?_
        refine go_callq PM70 PM9 (Q' := _) rfl rfl rfl rfl (sp_X1_start_0f L xs sio (d + 15) dt hI   ) ?_
        rintro _ _ ⟨dt70, rfl, hI71, hF72, h69⟩
        refine ⟨rfl, ?_⟩
        have hF73 : Fr [2, 3, 4, 5, 6, 9, 35, 37, 38, 39, 40, 41, 42, 44, 45, 46, 47, 48, 49, 50, 51, 52, 53, 54, 55, 56] dt dt70 := Fr_tr hF hF72 (by decide)
        have w74 : dt70 7 3 = dt 7 3 := hF72 7 (by decide) 3
        rcases h69 with ⟨rfl, h69⟩
        obtain ⟨h69_0, h69_1, h69_2, h69_3, h69_4, h69_5, h69_6⟩ := h69
        have tk75 := TOK_c h69_6
        have b776 : 0 ≤ dt70 35 7 ∧ dt70 35 7 ≤ 501 := InvC_get hI71 35 7 rfl rfl
        have c77 : ∀ j : Nat, dt70 2 j = dt 2 j := fun j => (hF72 2 (by decide) j).trans ((fun _ => rfl) j)
        have c78 : ∀ j : Nat, dt70 3 j = dt 3 j := fun j => (hF72 3 (by decide) j).trans ((fun _ => rfl) j)
        have c79 : ∀ j : Nat, dt70 8 j = dt 8 j := fun j => (hF72 8 (by decide) j).trans ((fun _ => rfl) j)
        have c80 : ∀ j : Nat, dt70 9 j = dt 9 j := fun j => (hF72 9 (by decide) j).trans ((fun _ => rfl) j)
        refine go_toq PM70 (k := 6) (pc' := 78) (L' := [some (.inr (.inr (some 0))), some (.inl p1), some (.inl p2), some (.inl 1), some (.inl 0), none]) (st' := [.inr (.inr (some 35))]) (w' := (SH, dt70)) rfl ?_
        refine go_callq PM70 PM25 (Q' := _) rfl rfl rfl rfl (sp_X1_readScene_f L xs sio (d + 18) dt70 hI71 (KF 0 (mB (fun j => am_and (dt 36 j) 255) (dt 35 1)) (dt 35 1).toNat) (VF (mB (fun j => am_and (dt 36 j) 255) (dt 35 1)) (dt 35 1).toNat) (SF (mB (fun j => am_and (dt 36 j) 255) (dt 35 1)) (dt 35 1).toNat) (dt70 35 7 - 1).toNat tk75.2 (by (first | omega | (have z0_ := unhid c68; omega)))  (by first | exact True.intro | with_reducible assumption | exact unhid (by with_reducible assumption) | rfl | (first | omega | (have z0_ := unhid c68; omega)) | trivial | exact tk75.1 | exact hI.1 | (rw [show dt70 8 = dt 8 from funext c79, show dt70 7 3 = dt 7 3 by first | with_reducible assumption | exact unhid (by with_reducible assumption) | (first | omega | (have z0_ := unhid c68; omega))]; exact h_p1)) (by first | exact True.intro | with_reducible assumption | exact unhid (by with_reducible assumption) | rfl | (first | omega | (have z0_ := unhid c68; omega)) | trivial | exact tk75.1 | exact hI.1 | (rw [show dt70 8 = dt 8 from funext c79, show dt70 7 3 = dt 7 3 by first | with_reducible assumption | exact unhid (by with_reducible assumption) | (first | omega | (have z0_ := unhid c68; omega))]; exact h_p1)) (by first | exact True.intro | with_reducible assumption | exact unhid (by with_reducible assumption) | rfl | (first | omega | (have z0_ := unhid c68; omega)) | trivial | exact tk75.1 | exact hI.1 | (rw [show dt70 8 = dt 8 from funext c79, show dt70 7 3 = dt 7 3 by first | with_reducible assumption | exact unhid (by with_reducible assumption) | (first | omega | (have z0_ := unhid c68; omega))]; exact h_p1)) (by first | exact True.intro | with_reducible assumption | exact unhid (by with_reducible assumption) | rfl | (first | omega | (have z0_ := unhid c68; omega)) | trivial | exact tk75.1 | exact hI.1 | (rw [show dt70 8 = dt 8 from funext c79, show dt70 7 3 = dt 7 3 by first | with_reducible assumption | exact unhid (by with_reducible assumption) | (first | omega | (have z0_ := unhid c68; omega))]; exact h_p1)) (by first | exact True.intro | with_reducible assumption | exact unhid (by with_reducible assumption) | rfl | (first | omega | (have z0_ := unhid c68; omega)) | trivial | exact tk75.1 | exact hI.1 | (rw [show dt70 8 = dt 8 from funext c79, show dt70 7 3 = dt 7 3 by first | with_reducible assumption | exact unhid (by with_reducible assumption) | (first | omega | (have z0_ := unhid c68; omega))]; exact h_p1)) (by first | exact True.intro | with_reducible assumption | exact unhid (by with_reducible assumption) | rfl | (first | omega | (have z0_ := unhid c68; omega)) | trivial | exact tk75.1 | exact hI.1 | (rw [show dt70 8 = dt 8 from funext c79, show dt70 7 3 = dt 7 3 by first | with_reducible assumption | exact unhid (by with_reducible assumption) | (first | omega | (have z0_ := unhid c68; omega))]; exact h_p1))) ?_
        rintro _ _ ⟨dt82, rfl, hI83, hF84, h81⟩
        refine ⟨rfl, ?_⟩
        have hF85 : Fr [2, 3, 4, 5, 6, 9, 35, 37, 38, 39, 40, 41, 42, 44, 45, 46, 47, 48, 49, 50, 51, 52, 53, 54, 55, 56] dt dt82 := Fr_tr hF73 hF84 (by decide)
        have w86 : dt82 7 3 = dt70 7 3 := hF84 7 (by decide) 3
        rcases h81 with ⟨v_h81, rfl, h81r, h81⟩
        obtain ⟨h81_0, h81_1, h81_2, h81_3, h81_4⟩ := h81
        replace h81_2 := hid h81_2
        have c87 : ∀ j : Nat, dt82 2 j = dt 2 j := fun j => (hF84 2 (by decide) j).trans (c77 j)
        have c88 : ∀ j : Nat, dt82 3 j = dt 3 j := fun j => (hF84 3 (by decide) j).trans (c78 j)
        have c89 : ∀ j : Nat, dt82 8 j = dt 8 j := fun j => (hF84 8 (by decide) j).trans (c79 j)
        have c90 : ∀ j : Nat, dt82 9 j = dt 9 j := fun j => (hF84 9 (by decide) j).trans (c80 j)
        have r91 : (-2147483648) ≤ dt82 35 2 ∧ dt82 35 2 ≤ 2147483647 := InvC_get hI83 35 2 rfl rfl
        refine go_ifq PM70 (k := 5) (p1 := 105) (p2 := 103) (L' := [some (.inr (.inr (some 0))), some (.inl p1), some (.inl p2), some (.inl 1), some (.inl 0), some (.inl v_h81)]) (st' := []) (w' := (SH, dt82)) rfl (z_eq (a := dt82 35 2) (by first | exact bnd r91 (by decide) (by decide) | exact ⟨by (first | omega | (have z0_ := unhid c68; omega)), by (first | omega | (have z0_ := unhid c68; omega))⟩)) (fun c92 => ?_) (fun c92 => ?_)
        · skip
          refine go_toq PM70 (k := 8) (pc' := 120) (L' := [some (.inr (.inr (some 0))), some (.inl p1), some (.inl p2), some (.inl 1), some (.inl 0), some (.inl v_h81)]) (st' := [.inl v_h81, .inr (.inr (some 35)), .inl p2, .inr (.inr (some 1))]) (w' := (SH, dt82)) rfl ?_
          refine go_callq PM70 PM2 (Q' := _) rfl rfl rfl rfl (sp_X0_takeScene_f L xs sio (d + 20) dt82 hI83  p2 (by first | exact h_p2 | exact bnd h_p2 (by decide) (by decide) | exact ⟨by (first | omega | (have z0_ := unhid c68; omega)), by (first | omega | (have z0_ := unhid c68; omega))⟩) v_h81 (by first | exact bnd h81r (by decide) (by decide) | exact ⟨by (first | omega | (have z0_ := unhid c68; omega)), by (first | omega | (have z0_ := unhid c68; omega))⟩) ) ?_
          rintro _ _ ⟨dt94, rfl, hI95, hF96, h93⟩
          refine ⟨rfl, ?_⟩
          have hF97 : Fr [2, 3, 4, 5, 6, 9, 35, 37, 38, 39, 40, 41, 42, 44, 45, 46, 47, 48, 49, 50, 51, 52, 53, 54, 55, 56] dt dt94 := Fr_tr hF85 hF96 (by decide)
          have w98 : dt94 35 1 = dt82 35 1 := hF96 35 (by decide) 1
          have w99 : dt94 35 2 = dt82 35 2 := hF96 35 (by decide) 2
          have w100 : dt94 35 3 = dt82 35 3 := hF96 35 (by decide) 3
          have w101 : dt94 7 3 = dt82 7 3 := hF96 7 (by decide) 3
          rcases h93 with ⟨rfl, h93⟩
          obtain ⟨h93_0, h93_1, h93_2, h93_3⟩ := h93
          have ts102 : TSA p1 p2 (mB (fun j => am_and (dt 36 j) 255) (dt 35 1)) (dt 35 1).toNat (dt94 35 2) v_h81 (dt 2) (dt 3) (dt94 2) (dt94 3) := TSA_y c87 c88 h93_0 h93_1 h93_2 h93_3 rfl ⟨by (first | omega | (have z0_ := unhid c68; omega)), by (first | omega | (have z0_ := unhid c68; omega))⟩ (h81_2 (by (first | omega | (have z0_ := unhid c68; omega)))) ⟨by (first | omega | (have z0_ := unhid c68; omega)), ⟨by (first | omega | (have z0_ := unhid c68; omega)), by (first | omega | (have z0_ := unhid c68; omega))⟩, by (first | omega | (have z0_ := unhid c68; omega))⟩
          have tf103 := TFS_S h_p0 hM ts102 ⟨by (first | omega | (have z0_ := unhid c68; omega)), ⟨by (first | omega | (have z0_ := unhid c68; omega)), by (first | omega | (have z0_ := unhid c68; omega))⟩, by (first | omega | (have z0_ := unhid c68; omega))⟩
          have c104 : ∀ j : Nat, dt94 8 j = dt 8 j := fun j => (hF96 8 (by decide) j).trans (c89 j)
          have c105 : ∀ j : Nat, dt94 9 j = dt 9 j := fun j => (hF96 9 (by decide) j).trans (c90 j)
          refine go_toq PM70 (k := 2) (pc' := 125) (L' := [some (.inr (.inr (some 0))), some (.inl p1), some (.inl p2), some (.inl 1), some (.inl 0), some (.inl v_h81)]) (st' := [.inl p2, .inr (.inr (some 0))]) (w' := (SH, dt94)) rfl ?_
          refine go_callq PM70 PM115 (Q' := _) rfl rfl rfl rfl (sp_X5_settleAll_f L xs sio (d + 17) dt94 hI95 (TFS (dt 80) (dt94 2) p2 v_h81) tf103.2 p2 (by first | exact h_p2 | exact bnd h_p2 (by decide) (by decide) | exact ⟨by (first | omega | (have z0_ := unhid c68; omega)), by (first | omega | (have z0_ := unhid c68; omega))⟩) (by first | exact True.intro | with_reducible assumption | exact unhid (by with_reducible assumption) | rfl | (first | omega | (have z0_ := unhid c68; omega)) | trivial | exact tk75.1 | exact tf103.1 | (rw [show dt94 8 = dt 8 from funext c104, show dt94 7 3 = dt 7 3 by first | with_reducible assumption | exact unhid (by with_reducible assumption) | (first | omega | (have z0_ := unhid c68; omega))]; exact h_p1)) (by first | exact True.intro | with_reducible assumption | exact unhid (by with_reducible assumption) | rfl | (first | omega | (have z0_ := unhid c68; omega)) | trivial | exact tk75.1 | exact tf103.1 | (rw [show dt94 8 = dt 8 from funext c104, show dt94 7 3 = dt 7 3 by first | with_reducible assumption | exact unhid (by with_reducible assumption) | (first | omega | (have z0_ := unhid c68; omega))]; exact h_p1))) ?_
          rintro _ _ ⟨dt107, rfl, hI108, hF109, h106⟩
          refine ⟨rfl, ?_⟩
          have hF110 : Fr [2, 3, 4, 5, 6, 9, 35, 37, 38, 39, 40, 41, 42, 44, 45, 46, 47, 48, 49, 50, 51, 52, 53, 54, 55, 56] dt dt107 := Fr_tr hF97 hF109 (by decide)
          have w111 : dt107 35 1 = dt94 35 1 := hF109 35 (by decide) 1
          have w112 : dt107 35 2 = dt94 35 2 := hF109 35 (by decide) 2
          have w113 : dt107 35 3 = dt94 35 3 := hF109 35 (by decide) 3
          have w114 : dt107 7 3 = dt94 7 3 := hF109 7 (by decide) 3
          rcases h106 with ⟨rfl, h106⟩
          have ts115 := TSA_k ts102 (hF109 2 (by decide)) (hF109 3 (by decide))
          have c116 : ∀ j : Nat, dt107 8 j = dt 8 j := fun j => (hF109 8 (by decide) j).trans (c104 j)
          have sa117 := h106
          rw [show dt94 8 = dt 8 from funext (fun j => ((hF109 8 (by decide) j).symm.trans (c116 j))), show dt94 9 = dt 9 from funext c105, show dt94 7 3 = dt 7 3 by first | with_reducible assumption | exact unhid (by with_reducible assumption) | (first | omega | (have z0_ := unhid c68; omega))] at sa117
          have c118 : SCL (dt107 2) (dt107 3) (TFS (dt 80) (dt94 2) p2 v_h81) := by rw [show dt107 2 = dt94 2 from funext (hF109 2 (by decide)), show dt107 3 = dt94 3 from funext (hF109 3 (by decide))]; exact tf103.1
          refine go_retq PM70 (k := 2) (r := some (.inl v_h81)) (w1 := (SH, dt107)) rfl ?_
          exact ⟨dt107, rfl, hI108, hF110, ⟨_, rfl, (by first | exact bnd h81r (by decide) (by decide) | exact ⟨by (first | omega | (have z0_ := unhid c68; omega)), by (first | omega | (have z0_ := unhid c68; omega))⟩), ⟨by first | exact True.intro | with_reducible assumption | exact unhid (by with_reducible assumption) | rfl | (first | omega | (have z0_ := unhid c68; omega)) | trivial, by first | exact TRS_y (by unfold okT; (first | omega | (have z0_ := unhid c68; omega))) rfl (by (first | omega | (have z0_ := unhid c68; omega))) (by (first | omega | (have z0_ := unhid c68; omega))) | exact TRS_t h81_0 (by (first | omega | (have z0_ := unhid c68; omega))) (by unfold okT; (first | omega | (have z0_ := unhid c68; omega))) (by (first | omega | (have z0_ := unhid c68; omega))) (by (first | omega | (have z0_ := unhid c68; omega))) (by (first | omega | (have z0_ := unhid c68; omega))), by first | exact TSA_n (by (first | omega | (have z0_ := unhid c68; omega))) c87 c88 | exact TSA_v ts115 (by (first | omega | (have z0_ := unhid c68; omega))) (by (first | omega | (have z0_ := unhid c68; omega))), by first | exact True.intro | with_reducible assumption | exact unhid (by with_reducible assumption) | rfl | (first | omega | (have z0_ := unhid c68; omega)) | trivial, by exact c116, by first | exact ⟨fun z_ => absurd z_ (by (first | omega | (have z0_ := unhid c68; omega))), fun _ => c105⟩ | exact ⟨fun _ => ⟨_, tf103.2, c118, sa117⟩, fun z_ => absurd (show p1 = 0 ∧ (0 ≤ p2 ∧ p2 ≤ 7) ∧ _ from ⟨by (first | omega | (have z0_ := unhid c68; omega)), ⟨by (first | omega | (have z0_ := unhid c68; omega)), by (first | omega | (have z0_ := unhid c68; omega))⟩, by (first | omega | (have z0_ := unhid c68; omega))⟩) z_⟩⟩⟩⟩
        · skip
          replace c92 := hid c92
          refine go_retq PM70 (k := 1) (r := some (.inl (-1))) (w1 := (SH, dt82)) rfl ?_
          exact ⟨dt82, rfl, hI83, hF85, ⟨_, rfl, ⟨by decide, by decide⟩, ⟨by first | exact True.intro | with_reducible assumption | exact unhid (by with_reducible assumption) | rfl | (first | omega | (have z0_ := unhid c68; have z1_ := unhid c92; omega)) | trivial, by first | exact TRS_y (by unfold okT; (first | omega | (have z0_ := unhid c68; have z1_ := unhid c92; omega))) rfl (by (first | omega | (have z0_ := unhid c68; have z1_ := unhid c92; omega))) (by (first | omega | (have z0_ := unhid c68; have z1_ := unhid c92; omega))) | exact TRS_t h81_0 (by (first | omega | (have z0_ := unhid c68; have z1_ := unhid c92; omega))) (by unfold okT; (first | omega | (have z0_ := unhid c68; have z1_ := unhid c92; omega))) (by (first | omega | (have z0_ := unhid c68; have z1_ := unhid c92; omega))) (by (first | omega | (have z0_ := unhid c68; have z1_ := unhid c92; omega))) (by (first | omega | (have z0_ := unhid c68; have z1_ := unhid c92; omega))), by first | exact TSA_n (by (first | omega | (have z0_ := unhid c68; have z1_ := unhid c92; omega))) c87 c88 | exact TSA_v $tsa (by (first | omega | (have z0_ := unhid c68; have z1_ := unhid c92; omega))) (by (first | omega | (have z0_ := unhid c68; have z1_ := unhid c92; omega))), by first | exact True.intro | with_reducible assumption | exact unhid (by with_reducible assumption) | rfl | (first | omega | (have z0_ := unhid c68; have z1_ := unhid c92; omega)) | trivial, by exact c89, by first | exact ⟨fun z_ => absurd z_ (by (first | omega | (have z0_ := unhid c68; have z1_ := unhid c92; omega))), fun _ => c90⟩ | exact ⟨fun _ => ⟨_, hI.2, hI, hI⟩, fun z_ => absurd (show p1 = 0 ∧ (0 ≤ p2 ∧ p2 ≤ 7) ∧ _ from ⟨by (first | omega | (have z0_ := unhid c68; have z1_ := unhid c92; omega)), ⟨by (first | omega | (have z0_ := unhid c68; have z1_ := unhid c92; omega)), by (first | omega | (have z0_ := unhid c68; have z1_ := unhid c92; omega))⟩, by (first | omega | (have z0_ := unhid c68; have z1_ := unhid c92; omega))⟩) z_⟩⟩⟩⟩
      · exfalso; omega
    · skip
      refine go_ifq PM70 (k := 5) (p1 := 38) (p2 := 25) (L' := [some (.inr (.inr (some 0))), some (.inl p1), some (.inl p2), some (.inl 0), none, none]) (st' := []) (w' := (SH, dt)) rfl (c_ne (a := p1) (b := 1) (by first | exact bnd h_p1 (by decide) (by decide) | exact ⟨by omega, by omega⟩) ⟨by decide, by decide⟩) (fun c119 => ?_) (fun c119 => ?_)
      · skip
        replace c119 := hid c119
        refine go_toq PM70 (k := 7) (pc' := 56) (L' := [some (.inr (.inr (some 0))), some (.inl p1), some (.inl p2), some (.inl 0), some (.inl 0), none]) (st' := [.inr (.inr (some 1001)), .inr (.inr (some 35))]) (w' := (SH, dt)) rfl ?_
        refine go_callq PM70 PM9 (Q' := _) rfl rfl rfl rfl (sp_X1_start_1f L xs sio (d + 15) dt hI   ) ?_
        rintro _ _ ⟨dt121, rfl, hI122, hF123, h120⟩
        refine ⟨rfl, ?_⟩
        have hF124 : Fr [2, 3, 4, 5, 6, 9, 35, 37, 38, 39, 40, 41, 42, 44, 45, 46, 47, 48, 49, 50, 51, 52, 53, 54, 55, 56] dt dt121 := Fr_tr hF hF123 (by decide)
        have w125 : dt121 7 3 = dt 7 3 := hF123 7 (by decide) 3
        rcases h120 with ⟨rfl, h120⟩
        obtain ⟨h120_0, h120_1, h120_2, h120_3, h120_4, h120_5, h120_6⟩ := h120
        have tk126 := TOK_c h120_6
        have b7127 : 0 ≤ dt121 35 7 ∧ dt121 35 7 ≤ 501 := InvC_get hI122 35 7 rfl rfl
        have c128 : ∀ j : Nat, dt121 2 j = dt 2 j := fun j => (hF123 2 (by decide) j).trans ((fun _ => rfl) j)
        have c129 : ∀ j : Nat, dt121 3 j = dt 3 j := fun j => (hF123 3 (by decide) j).trans ((fun _ => rfl) j)
        have c130 : ∀ j : Nat, dt121 8 j = dt 8 j := fun j => (hF123 8 (by decide) j).trans ((fun _ => rfl) j)
        have c131 : ∀ j : Nat, dt121 9 j = dt 9 j := fun j => (hF123 9 (by decide) j).trans ((fun _ => rfl) j)
        refine go_retq PM70 (k := 5) (r := some (.inl (-1))) (w1 := (SH, dt121)) rfl ?_
        exact ⟨dt121, rfl, hI122, hF124, ⟨_, rfl, ⟨by decide, by decide⟩, ⟨by first | exact True.intro | with_reducible assumption | exact unhid (by with_reducible assumption) | rfl | (first | omega | (have z0_ := unhid c119; omega)) | trivial, by first | exact TRS_y (by unfold okT; (first | omega | (have z0_ := unhid c119; omega))) rfl (by (first | omega | (have z0_ := unhid c119; omega))) (by (first | omega | (have z0_ := unhid c119; omega))) | exact TRS_t hI (by (first | omega | (have z0_ := unhid c119; omega))) (by unfold okT; (first | omega | (have z0_ := unhid c119; omega))) (by (first | omega | (have z0_ := unhid c119; omega))) (by (first | omega | (have z0_ := unhid c119; omega))) (by (first | omega | (have z0_ := unhid c119; omega))), by first | exact TSA_n (by (first | omega | (have z0_ := unhid c119; omega))) c128 c129 | exact TSA_v $tsa (by (first | omega | (have z0_ := unhid c119; omega))) (by (first | omega | (have z0_ := unhid c119; omega))), by first | exact True.intro | with_reducible assumption | exact unhid (by with_reducible assumption) | rfl | (first | omega | (have z0_ := unhid c119; omega)) | trivial, by exact c130, by first | exact ⟨fun z_ => absurd z_ (by (first | omega | (have z0_ := unhid c119; omega))), fun _ => c131⟩ | exact ⟨fun _ => ⟨_, hI.2, hI, hI⟩, fun z_ => absurd (show p1 = 0 ∧ (0 ≤ p2 ∧ p2 ≤ 7) ∧ _ from ⟨by (first | omega | (have z0_ := unhid c119; omega)), ⟨by (first | omega | (have z0_ := unhid c119; omega)), by (first | omega | (have z0_ := unhid c119; omega))⟩, by (first | omega | (have z0_ := unhid c119; omega))⟩) z_⟩⟩⟩⟩
      · exfalso; omega
theorem K0_q {f f' g : Nat → Int} {k n i : Int} (h : ∀ j : Nat, f' j = K0 f g k n i j) (hk : 0 ≤ k ∧ k ≤ 7) (hi : i ≤ 120) : ∀ q : Nat, (q = 1 ∨ 5320 ≤ q) → f' q = f q := by
  intro q hq
  rw [h q]; unfold K0; rw [if_neg (by omega), if_neg (by omega)]
theorem K2_q {f f' g h : Nat → Int} {k n i m : Int} (z : ∀ j : Nat, f' j = K2 (K1 f g k n m) h k i j) (hk : 0 ≤ k ∧ k ≤ 3) (hi : i ≤ 1020) (hm : m ≤ 16) : ∀ q : Nat, (q = 1 ∨ 5320 ≤ q) → f' q = f q := by
  intro q hq
  rw [z q]; unfold K2 K1; rw [if_neg (by omega), if_neg (by omega), if_neg (by omega), if_neg (by omega), if_neg (by omega), if_neg (by omega)]
set_option maxRecDepth 20000 in
theorem sp_X6_keeps_q0 (L : Nat) (xs : Nat → Int32) (sio : Option Nat) (d : Nat) (dt : Nat → Nat → Int) (hI : InvC dt) (hM : MW (dt 80))  (p1 : Int) (h_p1 : 0 ≤ p1 ∧ p1 ≤ 7) (h_p0 : dt 79 9 = 0) (h_p1 : 0 ≤ dt 79 10 ∧ dt 79 10 ≤ 24) (h_p2 : ARW (dt 82) (dt 79 10)) : GO (am_XX L xs sio) (d) 175 0 [some (.inr (.inr (some 79))), some (.inl p1), none] [] (SH, dt) (fun r w2 => ∃ dt2 : Nat → Nat → Int, w2 = (SH, dt2) ∧ InvC dt2 ∧ Fr [80] dt dt2 ∧ ((r = none ∧ (MW (dt2 80)) ∧ (dt2 80 0 = dt 80 0) ∧ (dt2 80 1 = dt 80 1) ∧ (dt2 80 2 = dt 80 2) ∧ (dt2 80 3 = dt 80 3) ∧ (dt2 80 4 = dt 80 4) ∧ (dt2 80 5 = dt 80 5) ∧ (∀ j : Nat, (j = 1 ∨ 5320 ≤ j) → dt2 80 j = dt 80 j)))) := by
  have hF : Fr [80] dt dt := Fr_refl
  have r1 : 0 ≤ dt 79 9 ∧ dt 79 9 ≤ 1 := InvC_get hI 79 9 rfl rfl
  have r2 : 0 ≤ dt 79 10 ∧ dt 79 10 ≤ 24 := InvC_get hI 79 10 rfl rfl
  refine go_ifq PM175 (k := 2) (p1 := 59) (p2 := 7) (L' := [some (.inr (.inr (some 79))), some (.inl p1), none]) (st' := []) (w' := (SH, dt)) rfl (z_ne (a := dt 79 9) (by first | exact bnd r1 (by decide) (by decide) | exact ⟨by fail, by fail⟩)) (fun c3 => ?_) (fun c3 => ?_)
  · skip
    have qc3 : 1 ≤ dt 79 9 := by omega
    replace c3 := hid c3
    exfalso; omega
  · skip
    refine go_toq PM175 (k := 7) (pc' := 19) (L' := [some (.inr (.inr (some 79))), some (.inl p1), none]) (st' := [.inl (dt 79 10), .inl (6 + p1), .inr (.inr (some 80))]) (w' := (SH, dt)) rfl ?_
    have hI4 : InvC (u2 dt 80 ((6 + p1).toNat) (dt 79 10)) := InvC_u2 hI (lo := -2147483648) (hi := 2147483647) rfl rfl rfl (by first | exact bnd1 r2 (by decide) | fail) (by first | exact bnd2 r2 (by decide) | fail)
    have hF5 : Fr [80] dt (u2 dt 80 ((6 + p1).toNat) (dt 79 10)) := Fr_u2 hF (by decide)
    refine go_smpq PM175 (L' := [some (.inr (.inr (some 79))), some (.inl p1), none]) (st' := []) (w' := (SH, (u2 dt 80 ((6 + p1).toNat) (dt 79 10)))) rfl rfl (s_iast (n := 7460) rfl ⟨by omega, by omega⟩ (by first | exact bnd r2 (by decide) (by decide) | exact ⟨by fail, by fail⟩)) ?_
    refine go_toq PM175 (k := 2) (pc' := 22) (L' := [some (.inr (.inr (some 79))), some (.inl p1), some (.inl 0)]) (st' := []) (w' := (SH, (u2 dt 80 ((6 + p1).toNat) (dt 79 10)))) rfl ?_
    have loop17 : ∀ (k_ : Nat) (l22_2 : Int) (dt11 : Nat → Nat → Int) (hI12 : InvC dt11) (hF13 : Fr [80] dt dt11) (i14 : 0 ≤ l22_2 ∧ l22_2 ≤ 120) (i15 : l22_2 ≤ 5 * dt 79 10) (i16 : ∀ j : Nat, dt11 80 j = K0 (dt 80) (dt 82) p1 (dt 79 10) l22_2 j), (121 - l22_2).toNat < k_ → GO (am_XX L xs sio) (d) 175 22 [some (.inr (.inr (some 79))), some (.inl p1), some (.inl l22_2)] [] (SH, dt11) (fun r w2 => ∃ dt2 : Nat → Nat → Int, w2 = (SH, dt2) ∧ InvC dt2 ∧ Fr [80] dt dt2 ∧ ((r = none ∧ (MW (dt2 80)) ∧ (dt2 80 0 = dt 80 0) ∧ (dt2 80 1 = dt 80 1) ∧ (dt2 80 2 = dt 80 2) ∧ (dt2 80 3 = dt 80 3) ∧ (dt2 80 4 = dt 80 4) ∧ (dt2 80 5 = dt 80 5) ∧ (∀ j : Nat, (j = 1 ∨ 5320 ≤ j) → dt2 80 j = dt 80 j)))) := by
      intro k_
      induction k_ with
      | zero => intro l22_2 dt11 hI12 hF13 i14 i15 i16 hm; exact absurd hm (Nat.not_lt_zero _)
      | succ k_ ih_loop17 =>
        intro l22_2 dt11 hI12 hF13 i14 i15 i16 hm
        refine go_toq PM175 (k := 3) (pc' := 25) (L' := [some (.inr (.inr (some 79))), some (.inl p1), some (.inl l22_2)]) (st' := [.inr (.inr (some 79)), .inl 5, .inl l22_2]) (w' := (SH, dt11)) rfl ?_
        refine go_smpq PM175 (L' := [some (.inr (.inr (some 79))), some (.inl p1), some (.inl l22_2)]) (st' := [.inl (dt 79 10), .inl 5, .inl l22_2]) (w' := (SH, dt11)) rfl rfl (s_gfc rfl rfl rfl (hF13 79 (by decide) 10)) ?_
        refine go_ifq PM175 (k := 1) (p1 := 58) (p2 := 32) (L' := [some (.inr (.inr (some 79))), some (.inl p1), some (.inl l22_2)]) (st' := []) (w' := (SH, dt11)) rfl (c_ge (a := l22_2) (b := 5 * (dt 79 10)) (by first | exact bnd i14 (by decide) (by decide) | exact ⟨by fail, by fail⟩) ⟨by omega, by omega⟩) (fun c18 => ?_) (fun c18 => ?_)
        · skip
          refine go_retq PM175 (k := 0) (r := none) (w1 := (SH, dt11)) rfl ?_
          exact ⟨dt11, rfl, hI12, hF13, ⟨rfl, ⟨by exact MW_K0 hM (by assumption) (by omega) (by omega) (by assumption) (by omega), by exact K0_lo (by assumption) (by omega) 0 (by decide), by exact K0_lo (by assumption) (by omega) 1 (by decide), by exact K0_lo (by assumption) (by omega) 2 (by decide), by exact K0_lo (by assumption) (by omega) 3 (by decide), by exact K0_lo (by assumption) (by omega) 4 (by decide), by exact K0_lo (by assumption) (by omega) 5 (by decide), by exact K0_q (by assumption) (by omega) (by omega)⟩⟩⟩
        · skip
          refine go_toq PM175 (k := 12) (pc' := 50) (L' := [some (.inr (.inr (some 79))), some (.inl p1), some (.inl l22_2)]) (st' := [.inl l22_2, .inr (.inr (some 82)), .inl ((14 + (120 * p1)) + l22_2), .inr (.inr (some 80))]) (w' := (SH, dt11)) rfl ?_
          have r19 : (-2147483648) ≤ dt 82 (l22_2).toNat ∧ dt 82 (l22_2).toNat ≤ 2147483647 := InvC_get hI 82 (l22_2).toNat rfl rfl
          refine go_smpq PM175 (L' := [some (.inr (.inr (some 79))), some (.inl p1), some (.inl l22_2)]) (st' := [.inl (dt 82 (l22_2).toNat), .inl ((14 + (120 * p1)) + l22_2), .inr (.inr (some 80))]) (w' := (SH, dt11)) rfl rfl (s_ev (s_iald (n := 120) (f := dt11 82) rfl (by first | exact bndc i14 c18 (by decide) (by decide) | exact bndx i14 (by decide) (by decide) | exact ⟨by omega, by omega⟩)) (hF13 82 (by decide) _)) ?_
          have hI20 : InvC (u2 dt11 80 (((14 + (120 * p1)) + l22_2).toNat) (dt 82 (l22_2).toNat)) := InvC_u2 hI12 (lo := -2147483648) (hi := 2147483647) rfl rfl rfl (by first | exact bnd1 r19 (by decide) | fail) (by first | exact bnd2 r19 (by decide) | fail)
          have hF21 : Fr [80] dt (u2 dt11 80 (((14 + (120 * p1)) + l22_2).toNat) (dt 82 (l22_2).toNat)) := Fr_u2 hF13 (by decide)
          refine go_smpq PM175 (L' := [some (.inr (.inr (some 79))), some (.inl p1), some (.inl l22_2)]) (st' := []) (w' := (SH, (u2 dt11 80 (((14 + (120 * p1)) + l22_2).toNat) (dt 82 (l22_2).toNat)))) rfl rfl (s_iast (n := 7460) rfl ⟨by omega, by omega⟩ (by first | exact bnd r19 (by decide) (by decide) | exact ⟨by fail, by fail⟩)) ?_
          refine go_toq PM175 (k := 2) (pc' := 22) (L' := [some (.inr (.inr (some 79))), some (.inl p1), some (.inl (l22_2 + 1))]) (st' := []) (w' := (SH, (u2 dt11 80 (((14 + (120 * p1)) + l22_2).toNat) (dt 82 (l22_2).toNat)))) rfl ?_
          exact GO.le (ih_loop17 (l22_2 + 1) (u2 dt11 80 (((14 + (120 * p1)) + l22_2).toNat) (dt 82 (l22_2).toNat)) hI20 hF21 (by first | with_reducible assumption | omega | exact K0_0 (by fail) | exact K0_s (by assumption) (by fail) (by fail) rfl) (by first | with_reducible assumption | omega | exact K0_0 (by fail) | exact K0_s (by assumption) (by fail) (by fail) rfl) (by first | with_reducible assumption | fail | exact K0_0 (by omega) | exact K0_s (by assumption) (by omega) (by omega) rfl) (by omega)) ⟨.inl rfl, .inl rfl, .inl rfl, trivial⟩
    exact GO.le (loop17 _ 0 (u2 dt 80 ((6 + p1).toNat) (dt 79 10)) hI4 hF5 (by first | with_reducible assumption | omega | exact K0_0 (by fail) | exact K0_s (by assumption) (by fail) (by fail) rfl) (by first | with_reducible assumption | omega | exact K0_0 (by fail) | exact K0_s (by assumption) (by fail) (by fail) rfl) (by first | with_reducible assumption | fail | exact K0_0 (by omega) | exact K0_s (by assumption) (by fail) (by fail) rfl) (Nat.lt_succ_self _)) ⟨.inl rfl, .inl rfl, .inl rfl, trivial⟩
set_option maxRecDepth 20000 in
theorem sp_X6_keeps_q1 (L : Nat) (xs : Nat → Int32) (sio : Option Nat) (d : Nat) (dt : Nat → Nat → Int) (hI : InvC dt) (hM : MW (dt 80))  (p1 : Int) (h_p1 : 0 ≤ p1 ∧ p1 ≤ 3) (h_p0 : dt 79 9 = 1) (h_p1 : 0 ≤ dt 79 10 ∧ dt 79 10 ≤ 16) (h_p2 : 0 ≤ dt 79 11 ∧ dt 79 11 ≤ 510) (h_p3 : LRW (dt 83) (dt 84) (dt 79 10) (dt 79 11)) : GO (am_XX L xs sio) (d) 175 0 [some (.inr (.inr (some 79))), some (.inl p1), none] [] (SH, dt) (fun r w2 => ∃ dt2 : Nat → Nat → Int, w2 = (SH, dt2) ∧ InvC dt2 ∧ Fr [80] dt dt2 ∧ ((r = none ∧ (MW (dt2 80)) ∧ (dt2 80 0 = dt 80 0) ∧ (dt2 80 1 = dt 80 1) ∧ (dt2 80 2 = dt 80 2) ∧ (dt2 80 3 = dt 80 3) ∧ (dt2 80 4 = dt 80 4) ∧ (dt2 80 5 = dt 80 5) ∧ (∀ j : Nat, (j = 1 ∨ 5320 ≤ j) → dt2 80 j = dt 80 j)))) := by
  have hF : Fr [80] dt dt := Fr_refl
  have r1 : 0 ≤ dt 79 9 ∧ dt 79 9 ≤ 1 := InvC_get hI 79 9 rfl rfl
  have r2 : 0 ≤ dt 79 10 ∧ dt 79 10 ≤ 24 := InvC_get hI 79 10 rfl rfl
  have r3 : 0 ≤ dt 79 11 ∧ dt 79 11 ≤ 510 := InvC_get hI 79 11 rfl rfl
  refine go_ifq PM175 (k := 2) (p1 := 59) (p2 := 7) (L' := [some (.inr (.inr (some 79))), some (.inl p1), none]) (st' := []) (w' := (SH, dt)) rfl (z_ne (a := dt 79 9) (by first | exact bnd r1 (by decide) (by decide) | exact ⟨by fail, by fail⟩)) (fun c4 => ?_) (fun c4 => ?_)
  · skip
    have qc4 : 1 ≤ dt 79 9 := by omega
    replace c4 := hid c4
    refine go_toq PM175 (k := 7) (pc' := 72) (L' := [some (.inr (.inr (some 79))), some (.inl p1), none]) (st' := [.inl (dt 79 10), .inl (974 + p1), .inr (.inr (some 80))]) (w' := (SH, dt)) rfl ?_
    have hI5 : InvC (u2 dt 80 ((974 + p1).toNat) (dt 79 10)) := InvC_u2 hI (lo := -2147483648) (hi := 2147483647) rfl rfl rfl (by first | exact bnd1 r2 (by decide) | fail) (by first | exact bnd2 r2 (by decide) | fail)
    have hF6 : Fr [80] dt (u2 dt 80 ((974 + p1).toNat) (dt 79 10)) := Fr_u2 hF (by decide)
    refine go_smpq PM175 (L' := [some (.inr (.inr (some 79))), some (.inl p1), none]) (st' := []) (w' := (SH, (u2 dt 80 ((974 + p1).toNat) (dt 79 10)))) rfl rfl (s_iast (n := 7460) rfl ⟨by omega, by omega⟩ (by first | exact bnd r2 (by decide) (by decide) | exact ⟨by fail, by fail⟩)) ?_
    refine go_toq PM175 (k := 2) (pc' := 75) (L' := [some (.inr (.inr (some 79))), some (.inl p1), some (.inl 0)]) (st' := []) (w' := (SH, (u2 dt 80 ((974 + p1).toNat) (dt 79 10)))) rfl ?_
    have loop27 : ∀ (k_ : Nat) (l75_2 : Int) (dt21 : Nat → Nat → Int) (hI22 : InvC dt21) (hF23 : Fr [80] dt dt21) (i24 : 0 ≤ l75_2 ∧ l75_2 ≤ 16) (i25 : l75_2 ≤ dt 79 10) (i26 : ∀ j : Nat, dt21 80 j = K1 (dt 80) (dt 83) p1 (dt 79 10) l75_2 j), (17 - l75_2).toNat < k_ → GO (am_XX L xs sio) (d) 175 75 [some (.inr (.inr (some 79))), some (.inl p1), some (.inl l75_2)] [] (SH, dt21) (fun r w2 => ∃ dt2 : Nat → Nat → Int, w2 = (SH, dt2) ∧ InvC dt2 ∧ Fr [80] dt dt2 ∧ ((r = none ∧ (MW (dt2 80)) ∧ (dt2 80 0 = dt 80 0) ∧ (dt2 80 1 = dt 80 1) ∧ (dt2 80 2 = dt 80 2) ∧ (dt2 80 3 = dt 80 3) ∧ (dt2 80 4 = dt 80 4) ∧ (dt2 80 5 = dt 80 5) ∧ (∀ j : Nat, (j = 1 ∨ 5320 ≤ j) → dt2 80 j = dt 80 j)))) := by
      intro k_
      induction k_ with
      | zero => intro l75_2 dt21 hI22 hF23 i24 i25 i26 hm; exact absurd hm (Nat.not_lt_zero _)
      | succ k_ ih_loop27 =>
        intro l75_2 dt21 hI22 hF23 i24 i25 i26 hm
        refine go_toq PM175 (k := 2) (pc' := 77) (L' := [some (.inr (.inr (some 79))), some (.inl p1), some (.inl l75_2)]) (st' := [.inr (.inr (some 79)), .inl l75_2]) (w' := (SH, dt21)) rfl ?_
        refine go_smpq PM175 (L' := [some (.inr (.inr (some 79))), some (.inl p1), some (.inl l75_2)]) (st' := [.inl (dt 79 10), .inl l75_2]) (w' := (SH, dt21)) rfl rfl (s_gfc rfl rfl rfl (hF23 79 (by decide) 10)) ?_
        refine go_ifq PM175 (k := 0) (p1 := 187) (p2 := 83) (L' := [some (.inr (.inr (some 79))), some (.inl p1), some (.inl l75_2)]) (st' := []) (w' := (SH, dt21)) rfl (c_ge (a := l75_2) (b := dt 79 10) (by first | exact bnd i24 (by decide) (by decide) | exact ⟨by fail, by fail⟩) (by first | exact bnd r2 (by decide) (by decide) | exact ⟨by fail, by fail⟩)) (fun c28 => ?_) (fun c28 => ?_)
        · skip
          refine go_toq PM175 (k := 2) (pc' := 189) (L' := [some (.inr (.inr (some 79))), some (.inl p1), some (.inl 0)]) (st' := []) (w' := (SH, dt21)) rfl ?_
          have loop40 : ∀ (k_ : Nat) (l189_2 : Int) (dt34 : Nat → Nat → Int) (hI35 : InvC dt34) (hF36 : Fr [80] dt dt34) (i37 : 0 ≤ l189_2 ∧ l189_2 ≤ 1020) (i38 : l189_2 ≤ 2 * dt 79 11) (i39 : ∀ j : Nat, dt34 80 j = K2 (K1 (dt 80) (dt 83) p1 (dt 79 10) l75_2) (dt 84) p1 l189_2 j), (1021 - l189_2).toNat < k_ → GO (am_XX L xs sio) (d) 175 189 [some (.inr (.inr (some 79))), some (.inl p1), some (.inl l189_2)] [] (SH, dt34) (fun r w2 => ∃ dt2 : Nat → Nat → Int, w2 = (SH, dt2) ∧ InvC dt2 ∧ Fr [80] dt dt2 ∧ ((r = none ∧ (MW (dt2 80)) ∧ (dt2 80 0 = dt 80 0) ∧ (dt2 80 1 = dt 80 1) ∧ (dt2 80 2 = dt 80 2) ∧ (dt2 80 3 = dt 80 3) ∧ (dt2 80 4 = dt 80 4) ∧ (dt2 80 5 = dt 80 5) ∧ (∀ j : Nat, (j = 1 ∨ 5320 ≤ j) → dt2 80 j = dt 80 j)))) := by
            intro k_
            induction k_ with
            | zero => intro l189_2 dt34 hI35 hF36 i37 i38 i39 hm; exact absurd hm (Nat.not_lt_zero _)
            | succ k_ ih_loop40 =>
              intro l189_2 dt34 hI35 hF36 i37 i38 i39 hm
              refine go_toq PM175 (k := 3) (pc' := 192) (L' := [some (.inr (.inr (some 79))), some (.inl p1), some (.inl l189_2)]) (st' := [.inr (.inr (some 79)), .inl 2, .inl l189_2]) (w' := (SH, dt34)) rfl ?_
              refine go_smpq PM175 (L' := [some (.inr (.inr (some 79))), some (.inl p1), some (.inl l189_2)]) (st' := [.inl (dt 79 11), .inl 2, .inl l189_2]) (w' := (SH, dt34)) rfl rfl (s_gfc rfl rfl rfl (hF36 79 (by decide) 11)) ?_
              refine go_ifq PM175 (k := 1) (p1 := 227) (p2 := 199) (L' := [some (.inr (.inr (some 79))), some (.inl p1), some (.inl l189_2)]) (st' := []) (w' := (SH, dt34)) rfl (c_ge (a := l189_2) (b := 2 * (dt 79 11)) (by first | exact bnd i37 (by decide) (by decide) | exact ⟨by fail, by fail⟩) ⟨by omega, by omega⟩) (fun c41 => ?_) (fun c41 => ?_)
              · skip
                refine go_retq PM175 (k := 0) (r := none) (w1 := (SH, dt34)) rfl ?_
                exact ⟨dt34, rfl, hI35, hF36, ⟨rfl, ⟨by exact MW_K1 hM (by assumption) (by omega) (by omega) (by omega) (by assumption) (by omega) (by omega), by exact K2_lo (by assumption) (by omega) 0 (by decide), by exact K2_lo (by assumption) (by omega) 1 (by decide), by exact K2_lo (by assumption) (by omega) 2 (by decide), by exact K2_lo (by assumption) (by omega) 3 (by decide), by exact K2_lo (by assumption) (by omega) 4 (by decide), by exact K2_lo (by assumption) (by omega) 5 (by decide), by exact K2_q (by assumption) (by omega) (by omega) (by omega)⟩⟩⟩
              · skip
                refine go_toq PM175 (k := 12) (pc' := 219) (L' := [some (.inr (.inr (some 79))), some (.inl p1), some (.inl l189_2)]) (st' := [.inl l189_2, .inr (.inr (some 84)), .inl ((1240 + (1020 * p1)) + l189_2), .inr (.inr (some 80))]) (w' := (SH, dt34)) rfl ?_
                have r42 : (-2147483648) ≤ dt 84 (l189_2).toNat ∧ dt 84 (l189_2).toNat ≤ 2147483647 := InvC_get hI 84 (l189_2).toNat rfl rfl
                refine go_smpq PM175 (L' := [some (.inr (.inr (some 79))), some (.inl p1), some (.inl l189_2)]) (st' := [.inl (dt 84 (l189_2).toNat), .inl ((1240 + (1020 * p1)) + l189_2), .inr (.inr (some 80))]) (w' := (SH, dt34)) rfl rfl (s_ev (s_iald (n := 1020) (f := dt34 84) rfl (by first | exact bndc i37 c41 (by decide) (by decide) | exact bndx i37 (by decide) (by decide) | exact ⟨by omega, by omega⟩)) (hF36 84 (by decide) _)) ?_
                have hI43 : InvC (u2 dt34 80 (((1240 + (1020 * p1)) + l189_2).toNat) (dt 84 (l189_2).toNat)) := InvC_u2 hI35 (lo := -2147483648) (hi := 2147483647) rfl rfl rfl (by first | exact bnd1 r42 (by decide) | fail) (by first | exact bnd2 r42 (by decide) | fail)
                have hF44 : Fr [80] dt (u2 dt34 80 (((1240 + (1020 * p1)) + l189_2).toNat) (dt 84 (l189_2).toNat)) := Fr_u2 hF36 (by decide)
                refine go_smpq PM175 (L' := [some (.inr (.inr (some 79))), some (.inl p1), some (.inl l189_2)]) (st' := []) (w' := (SH, (u2 dt34 80 (((1240 + (1020 * p1)) + l189_2).toNat) (dt 84 (l189_2).toNat)))) rfl rfl (s_iast (n := 7460) rfl ⟨by omega, by omega⟩ (by first | exact bnd r42 (by decide) (by decide) | exact ⟨by fail, by fail⟩)) ?_
                refine go_toq PM175 (k := 2) (pc' := 189) (L' := [some (.inr (.inr (some 79))), some (.inl p1), some (.inl (l189_2 + 1))]) (st' := []) (w' := (SH, (u2 dt34 80 (((1240 + (1020 * p1)) + l189_2).toNat) (dt 84 (l189_2).toNat)))) rfl ?_
                exact GO.le (ih_loop40 (l189_2 + 1) (u2 dt34 80 (((1240 + (1020 * p1)) + l189_2).toNat) (dt 84 (l189_2).toNat)) hI43 hF44 (by first | with_reducible assumption | exact unhid (by with_reducible assumption) | omega | exact K2_0 (by assumption) (by fail) | exact K2_s (by assumption) (by fail) (by fail) rfl) (by first | with_reducible assumption | exact unhid (by with_reducible assumption) | omega | exact K2_0 (by assumption) (by fail) | exact K2_s (by assumption) (by fail) (by fail) rfl) (by first | with_reducible assumption | exact unhid (by with_reducible assumption) | fail | exact K2_0 (by assumption) (by fail) | exact K2_s (by assumption) (by omega) (by omega) rfl) (by omega)) ⟨.inl rfl, .inl rfl, .inl rfl, trivial⟩
          exact GO.le (loop40 _ 0 dt21 hI22 hF23 (by first | with_reducible assumption | exact unhid (by with_reducible assumption) | omega | exact K2_0 (by assumption) (by fail) | exact K2_s (by assumption) (by fail) (by fail) rfl) (by first | with_reducible assumption | exact unhid (by with_reducible assumption) | omega | exact K2_0 (by assumption) (by fail) | exact K2_s (by assumption) (by fail) (by fail) rfl) (by first | with_reducible assumption | exact unhid (by with_reducible assumption) | fail | exact K2_0 (by assumption) (by omega) | exact K2_s (by assumption) (by fail) (by fail) rfl) (Nat.lt_succ_self _)) ⟨.inl rfl, .inl rfl, .inl rfl, trivial⟩
        · skip
          refine go_toq PM175 (k := 14) (pc' := 104) (L' := [some (.inr (.inr (some 79))), some (.inl p1), some (.inl l75_2)]) (st' := [.inl (4 * l75_2), .inr (.inr (some 83)), .inl ((978 + (16 * p1)) + l75_2), .inr (.inr (some 80))]) (w' := (SH, dt21)) rfl ?_
          have r45 : (-2147483648) ≤ dt 83 ((4 * l75_2).toNat) ∧ dt 83 ((4 * l75_2).toNat) ≤ 2147483647 := InvC_get hI 83 ((4 * l75_2).toNat) rfl rfl
          refine go_smpq PM175 (L' := [some (.inr (.inr (some 79))), some (.inl p1), some (.inl l75_2)]) (st' := [.inl (dt 83 ((4 * l75_2).toNat)), .inl ((978 + (16 * p1)) + l75_2), .inr (.inr (some 80))]) (w' := (SH, dt21)) rfl rfl (s_ev (s_iald (n := 64) (f := dt21 83) rfl ⟨by omega, by omega⟩) (hF23 83 (by decide) _)) ?_
          have hI46 : InvC (u2 dt21 80 (((978 + (16 * p1)) + l75_2).toNat) (dt 83 ((4 * l75_2).toNat))) := InvC_u2 hI22 (lo := -2147483648) (hi := 2147483647) rfl rfl rfl (by first | exact bnd1 r45 (by decide) | fail) (by first | exact bnd2 r45 (by decide) | fail)
          have hF47 : Fr [80] dt (u2 dt21 80 (((978 + (16 * p1)) + l75_2).toNat) (dt 83 ((4 * l75_2).toNat))) := Fr_u2 hF23 (by decide)
          refine go_smpq PM175 (L' := [some (.inr (.inr (some 79))), some (.inl p1), some (.inl l75_2)]) (st' := []) (w' := (SH, (u2 dt21 80 (((978 + (16 * p1)) + l75_2).toNat) (dt 83 ((4 * l75_2).toNat))))) rfl rfl (s_iast (n := 7460) rfl ⟨by omega, by omega⟩ (by first | exact bnd r45 (by decide) (by decide) | exact ⟨by fail, by fail⟩)) ?_
          refine go_toq PM175 (k := 16) (pc' := 129) (L' := [some (.inr (.inr (some 79))), some (.inl p1), some (.inl l75_2)]) (st' := [.inl ((4 * l75_2) + 1), .inr (.inr (some 83)), .inl ((1042 + (16 * p1)) + l75_2), .inr (.inr (some 80))]) (w' := (SH, (u2 dt21 80 (((978 + (16 * p1)) + l75_2).toNat) (dt 83 ((4 * l75_2).toNat))))) rfl ?_
          have r48 : (-2147483648) ≤ dt 83 (((4 * l75_2) + 1).toNat) ∧ dt 83 (((4 * l75_2) + 1).toNat) ≤ 2147483647 := InvC_get hI 83 (((4 * l75_2) + 1).toNat) rfl rfl
          refine go_smpq PM175 (L' := [some (.inr (.inr (some 79))), some (.inl p1), some (.inl l75_2)]) (st' := [.inl (dt 83 (((4 * l75_2) + 1).toNat)), .inl ((1042 + (16 * p1)) + l75_2), .inr (.inr (some 80))]) (w' := (SH, (u2 dt21 80 (((978 + (16 * p1)) + l75_2).toNat) (dt 83 ((4 * l75_2).toNat))))) rfl rfl (s_ev (s_iald (n := 64) (f := (u2 dt21 80 (((978 + (16 * p1)) + l75_2).toNat) (dt 83 ((4 * l75_2).toNat))) 83) rfl ⟨by omega, by omega⟩) (hF47 83 (by decide) _)) ?_
          have hI49 : InvC (u2 (u2 dt21 80 (((978 + (16 * p1)) + l75_2).toNat) (dt 83 ((4 * l75_2).toNat))) 80 (((1042 + (16 * p1)) + l75_2).toNat) (dt 83 (((4 * l75_2) + 1).toNat))) := InvC_u2 hI46 (lo := -2147483648) (hi := 2147483647) rfl rfl rfl (by first | exact bnd1 r48 (by decide) | fail) (by first | exact bnd2 r48 (by decide) | fail)
          have hF50 : Fr [80] dt (u2 (u2 dt21 80 (((978 + (16 * p1)) + l75_2).toNat) (dt 83 ((4 * l75_2).toNat))) 80 (((1042 + (16 * p1)) + l75_2).toNat) (dt 83 (((4 * l75_2) + 1).toNat))) := Fr_u2 hF47 (by decide)
          refine go_smpq PM175 (L' := [some (.inr (.inr (some 79))), some (.inl p1), some (.inl l75_2)]) (st' := []) (w' := (SH, (u2 (u2 dt21 80 (((978 + (16 * p1)) + l75_2).toNat) (dt 83 ((4 * l75_2).toNat))) 80 (((1042 + (16 * p1)) + l75_2).toNat) (dt 83 (((4 * l75_2) + 1).toNat))))) rfl rfl (s_iast (n := 7460) rfl ⟨by omega, by omega⟩ (by first | exact bnd r48 (by decide) (by decide) | exact ⟨by fail, by fail⟩)) ?_
          refine go_toq PM175 (k := 16) (pc' := 154) (L' := [some (.inr (.inr (some 79))), some (.inl p1), some (.inl l75_2)]) (st' := [.inl ((4 * l75_2) + 2), .inr (.inr (some 83)), .inl ((1106 + (16 * p1)) + l75_2), .inr (.inr (some 80))]) (w' := (SH, (u2 (u2 dt21 80 (((978 + (16 * p1)) + l75_2).toNat) (dt 83 ((4 * l75_2).toNat))) 80 (((1042 + (16 * p1)) + l75_2).toNat) (dt 83 (((4 * l75_2) + 1).toNat))))) rfl ?_
          have r51 : (-2147483648) ≤ dt 83 (((4 * l75_2) + 2).toNat) ∧ dt 83 (((4 * l75_2) + 2).toNat) ≤ 2147483647 := InvC_get hI 83 (((4 * l75_2) + 2).toNat) rfl rfl
          refine go_smpq PM175 (L' := [some (.inr (.inr (some 79))), some (.inl p1), some (.inl l75_2)]) (st' := [.inl (dt 83 (((4 * l75_2) + 2).toNat)), .inl ((1106 + (16 * p1)) + l75_2), .inr (.inr (some 80))]) (w' := (SH, (u2 (u2 dt21 80 (((978 + (16 * p1)) + l75_2).toNat) (dt 83 ((4 * l75_2).toNat))) 80 (((1042 + (16 * p1)) + l75_2).toNat) (dt 83 (((4 * l75_2) + 1).toNat))))) rfl rfl (s_ev (s_iald (n := 64) (f := (u2 (u2 dt21 80 (((978 + (16 * p1)) + l75_2).toNat) (dt 83 ((4 * l75_2).toNat))) 80 (((1042 + (16 * p1)) + l75_2).toNat) (dt 83 (((4 * l75_2) + 1).toNat))) 83) rfl ⟨by omega, by omega⟩) (hF50 83 (by decide) _)) ?_
          have hI52 : InvC (u2 (u2 (u2 dt21 80 (((978 + (16 * p1)) + l75_2).toNat) (dt 83 ((4 * l75_2).toNat))) 80 (((1042 + (16 * p1)) + l75_2).toNat) (dt 83 (((4 * l75_2) + 1).toNat))) 80 (((1106 + (16 * p1)) + l75_2).toNat) (dt 83 (((4 * l75_2) + 2).toNat))) := InvC_u2 hI49 (lo := -2147483648) (hi := 2147483647) rfl rfl rfl (by first | exact bnd1 r51 (by decide) | fail) (by first | exact bnd2 r51 (by decide) | fail)
          have hF53 : Fr [80] dt (u2 (u2 (u2 dt21 80 (((978 + (16 * p1)) + l75_2).toNat) (dt 83 ((4 * l75_2).toNat))) 80 (((1042 + (16 * p1)) + l75_2).toNat) (dt 83 (((4 * l75_2) + 1).toNat))) 80 (((1106 + (16 * p1)) + l75_2).toNat) (dt 83 (((4 * l75_2) + 2).toNat))) := Fr_u2 hF50 (by decide)
          refine go_smpq PM175 (L' := [some (.inr (.inr (some 79))), some (.inl p1), some (.inl l75_2)]) (st' := []) (w' := (SH, (u2 (u2 (u2 dt21 80 (((978 + (16 * p1)) + l75_2).toNat) (dt 83 ((4 * l75_2).toNat))) 80 (((1042 + (16 * p1)) + l75_2).toNat) (dt 83 (((4 * l75_2) + 1).toNat))) 80 (((1106 + (16 * p1)) + l75_2).toNat) (dt 83 (((4 * l75_2) + 2).toNat))))) rfl rfl (s_iast (n := 7460) rfl ⟨by omega, by omega⟩ (by first | exact bnd r51 (by decide) (by decide) | exact ⟨by fail, by fail⟩)) ?_
          refine go_toq PM175 (k := 16) (pc' := 179) (L' := [some (.inr (.inr (some 79))), some (.inl p1), some (.inl l75_2)]) (st' := [.inl ((4 * l75_2) + 3), .inr (.inr (some 83)), .inl ((1170 + (16 * p1)) + l75_2), .inr (.inr (some 80))]) (w' := (SH, (u2 (u2 (u2 dt21 80 (((978 + (16 * p1)) + l75_2).toNat) (dt 83 ((4 * l75_2).toNat))) 80 (((1042 + (16 * p1)) + l75_2).toNat) (dt 83 (((4 * l75_2) + 1).toNat))) 80 (((1106 + (16 * p1)) + l75_2).toNat) (dt 83 (((4 * l75_2) + 2).toNat))))) rfl ?_
          have r54 : (-2147483648) ≤ dt 83 (((4 * l75_2) + 3).toNat) ∧ dt 83 (((4 * l75_2) + 3).toNat) ≤ 2147483647 := InvC_get hI 83 (((4 * l75_2) + 3).toNat) rfl rfl
          refine go_smpq PM175 (L' := [some (.inr (.inr (some 79))), some (.inl p1), some (.inl l75_2)]) (st' := [.inl (dt 83 (((4 * l75_2) + 3).toNat)), .inl ((1170 + (16 * p1)) + l75_2), .inr (.inr (some 80))]) (w' := (SH, (u2 (u2 (u2 dt21 80 (((978 + (16 * p1)) + l75_2).toNat) (dt 83 ((4 * l75_2).toNat))) 80 (((1042 + (16 * p1)) + l75_2).toNat) (dt 83 (((4 * l75_2) + 1).toNat))) 80 (((1106 + (16 * p1)) + l75_2).toNat) (dt 83 (((4 * l75_2) + 2).toNat))))) rfl rfl (s_ev (s_iald (n := 64) (f := (u2 (u2 (u2 dt21 80 (((978 + (16 * p1)) + l75_2).toNat) (dt 83 ((4 * l75_2).toNat))) 80 (((1042 + (16 * p1)) + l75_2).toNat) (dt 83 (((4 * l75_2) + 1).toNat))) 80 (((1106 + (16 * p1)) + l75_2).toNat) (dt 83 (((4 * l75_2) + 2).toNat))) 83) rfl ⟨by omega, by omega⟩) (hF53 83 (by decide) _)) ?_
          have hI55 : InvC (u2 (u2 (u2 (u2 dt21 80 (((978 + (16 * p1)) + l75_2).toNat) (dt 83 ((4 * l75_2).toNat))) 80 (((1042 + (16 * p1)) + l75_2).toNat) (dt 83 (((4 * l75_2) + 1).toNat))) 80 (((1106 + (16 * p1)) + l75_2).toNat) (dt 83 (((4 * l75_2) + 2).toNat))) 80 (((1170 + (16 * p1)) + l75_2).toNat) (dt 83 (((4 * l75_2) + 3).toNat))) := InvC_u2 hI52 (lo := -2147483648) (hi := 2147483647) rfl rfl rfl (by first | exact bnd1 r54 (by decide) | fail) (by first | exact bnd2 r54 (by decide) | fail)
          have hF56 : Fr [80] dt (u2 (u2 (u2 (u2 dt21 80 (((978 + (16 * p1)) + l75_2).toNat) (dt 83 ((4 * l75_2).toNat))) 80 (((1042 + (16 * p1)) + l75_2).toNat) (dt 83 (((4 * l75_2) + 1).toNat))) 80 (((1106 + (16 * p1)) + l75_2).toNat) (dt 83 (((4 * l75_2) + 2).toNat))) 80 (((1170 + (16 * p1)) + l75_2).toNat) (dt 83 (((4 * l75_2) + 3).toNat))) := Fr_u2 hF53 (by decide)
          refine go_smpq PM175 (L' := [some (.inr (.inr (some 79))), some (.inl p1), some (.inl l75_2)]) (st' := []) (w' := (SH, (u2 (u2 (u2 (u2 dt21 80 (((978 + (16 * p1)) + l75_2).toNat) (dt 83 ((4 * l75_2).toNat))) 80 (((1042 + (16 * p1)) + l75_2).toNat) (dt 83 (((4 * l75_2) + 1).toNat))) 80 (((1106 + (16 * p1)) + l75_2).toNat) (dt 83 (((4 * l75_2) + 2).toNat))) 80 (((1170 + (16 * p1)) + l75_2).toNat) (dt 83 (((4 * l75_2) + 3).toNat))))) rfl rfl (s_iast (n := 7460) rfl ⟨by omega, by omega⟩ (by first | exact bnd r54 (by decide) (by decide) | exact ⟨by fail, by fail⟩)) ?_
          refine go_toq PM175 (k := 2) (pc' := 75) (L' := [some (.inr (.inr (some 79))), some (.inl p1), some (.inl (l75_2 + 1))]) (st' := []) (w' := (SH, (u2 (u2 (u2 (u2 dt21 80 (((978 + (16 * p1)) + l75_2).toNat) (dt 83 ((4 * l75_2).toNat))) 80 (((1042 + (16 * p1)) + l75_2).toNat) (dt 83 (((4 * l75_2) + 1).toNat))) 80 (((1106 + (16 * p1)) + l75_2).toNat) (dt 83 (((4 * l75_2) + 2).toNat))) 80 (((1170 + (16 * p1)) + l75_2).toNat) (dt 83 (((4 * l75_2) + 3).toNat))))) rfl ?_
          exact GO.le (ih_loop27 (l75_2 + 1) (u2 (u2 (u2 (u2 dt21 80 (((978 + (16 * p1)) + l75_2).toNat) (dt 83 ((4 * l75_2).toNat))) 80 (((1042 + (16 * p1)) + l75_2).toNat) (dt 83 (((4 * l75_2) + 1).toNat))) 80 (((1106 + (16 * p1)) + l75_2).toNat) (dt 83 (((4 * l75_2) + 2).toNat))) 80 (((1170 + (16 * p1)) + l75_2).toNat) (dt 83 (((4 * l75_2) + 3).toNat))) hI55 hF56 (by first | with_reducible assumption | exact unhid (by with_reducible assumption) | omega | exact K1_0 (by fail) | exact K1_s (by assumption) (by fail) (by fail) rfl rfl rfl rfl) (by first | with_reducible assumption | exact unhid (by with_reducible assumption) | omega | exact K1_0 (by fail) | exact K1_s (by assumption) (by fail) (by fail) rfl rfl rfl rfl) (by first | with_reducible assumption | exact unhid (by with_reducible assumption) | fail | exact K1_0 (by omega) | exact K1_s (by assumption) (by omega) (by omega) rfl rfl rfl rfl) (by omega)) ⟨.inl rfl, .inl rfl, .inl rfl, trivial⟩
    exact GO.le (loop27 _ 0 (u2 dt 80 ((974 + p1).toNat) (dt 79 10)) hI5 hF6 (by first | with_reducible assumption | exact unhid (by with_reducible assumption) | omega | exact K1_0 (by fail) | exact K1_s (by assumption) (by fail) (by fail) rfl rfl rfl rfl) (by first | with_reducible assumption | exact unhid (by with_reducible assumption) | omega | exact K1_0 (by fail) | exact K1_s (by assumption) (by fail) (by fail) rfl rfl rfl rfl) (by first | with_reducible assumption | exact unhid (by with_reducible assumption) | fail | exact K1_0 (by omega) | exact K1_s (by assumption) (by fail) (by fail) rfl rfl rfl rfl) (Nat.lt_succ_self _)) ⟨.inl rfl, .inl rfl, .inl rfl, trivial⟩
  · skip
    exfalso; omega
set_option maxHeartbeats 8000000 in
set_option maxRecDepth 20000 in
theorem sp_X6_text_q (L : Nat) (xs : Nat → Int32) (sio : Option Nat) (d : Nat) (dt : Nat → Nat → Int) (hI : InvC dt) (hM : MW (dt 80))  (p1 : Int) (h_p1 : (-2147483648) ≤ p1 ∧ p1 ≤ 2147483647) (p2 : Int) (h_p2 : (-2147483648) ≤ p2 ∧ p2 ≤ 2147483647)  : GO (am_XX L xs sio) (d + 38) 174 0 [some (.inr (.inr (some 79))), some (.inl p1), some (.inl p2), none] [] (SH, dt) (fun r w2 => ∃ dt2 : Nat → Nat → Int, w2 = (SH, dt2) ∧ InvC dt2 ∧ Fr [79, 80, 82, 83, 84] dt dt2 ∧ ((∃ v : Int, r = some (.inl v) ∧ ((-1) ≤ v ∧ v ≤ 24) ∧ (dt2 79 12 = 0) ∧ (dt2 79 2 = dt 79 2) ∧ (MW (dt2 80)) ∧ (dt2 80 0 = dt 80 0) ∧ (dt2 80 1 = dt 80 1) ∧ (dt2 80 2 = dt 80 2) ∧ (dt2 80 3 = dt 80 3) ∧ (dt2 80 4 = dt 80 4) ∧ (dt2 80 5 = dt 80 5) ∧ (∀ j : Nat, (j = 1 ∨ 5320 ≤ j) → dt2 80 j = dt 80 j)))) := by
  have hF : Fr [79, 80, 82, 83, 84] dt dt := Fr_refl
  have r1 : 0 ≤ dt 79 15 ∧ dt 79 15 ≤ 500 := InvC_get hI 79 15 rfl rfl
  have r2 : 0 ≤ dt 79 11 ∧ dt 79 11 ≤ 510 := InvC_get hI 79 11 rfl rfl
  have r3 : 0 ≤ dt 79 10 ∧ dt 79 10 ≤ 24 := InvC_get hI 79 10 rfl rfl
  refine go_toq PM174 (k := 2) (pc' := 2) (L' := [some (.inr (.inr (some 79))), some (.inl p1), some (.inl p2), none]) (st' := [.inl 0, .inr (.inr (some 79))]) (w' := (SH, dt)) rfl ?_
  have hI4 : InvC (u2 dt 79 17 0) := InvC_u2 hI (lo := -2147483648) (hi := 2147483647) rfl rfl rfl (by decide) (by decide)
  have hF5 : Fr [79, 80, 82, 83, 84] dt (u2 dt 79 17 0) := Fr_u2 hF (by decide)
  have w6 : (u2 dt 79 17 0) 79 2 = dt 79 2 := rfl
  have w7 : (u2 dt 79 17 0) 79 9 = dt 79 9 := rfl
  have w8 : (u2 dt 79 17 0) 79 10 = dt 79 10 := rfl
  have w9 : (u2 dt 79 17 0) 79 11 = dt 79 11 := rfl
  have w10 : (u2 dt 79 17 0) 79 12 = dt 79 12 := rfl
  have w11 : (u2 dt 79 17 0) 79 13 = dt 79 13 := rfl
  have w12 : (u2 dt 79 17 0) 79 14 = dt 79 14 := rfl
  have w13 : (u2 dt 79 17 0) 79 15 = dt 79 15 := rfl
  have E8414 : (u2 dt 79 17 0) 84 = dt 84 := funext fun _ => rfl
  have E8015 : (u2 dt 79 17 0) 80 = dt 80 := (funext fun _ => u2_ne (fun z => absurd z.1 (by decide))).trans rfl
  refine go_smpq PM174 (L' := [some (.inr (.inr (some 79))), some (.inl p1), some (.inl p2), none]) (st' := []) (w' := (SH, (u2 dt 79 17 0))) rfl rfl (s_pf rfl rfl rfl rfl ⟨by decide, by decide⟩) ?_
  refine go_toq PM174 (k := 3) (pc' := 8) (L' := [some (.inr (.inr (some 79))), some (.inl p1), some (.inl p2), none]) (st' := [.inl 1, .inl 0, .inl p1]) (w' := (SH, (u2 dt 79 17 0))) rfl ?_
  refine go_callq PM174 PM146 (Q' := _) rfl rfl rfl rfl (sp_X6_isIn L xs sio (d + 37) (u2 dt 79 17 0) hI4  p1 (by first | exact h_p1 | exact bnd h_p1 (by decide) (by decide) | exact ⟨by fail, by fail⟩) 0 ⟨by decide, by decide⟩ 1 ⟨by decide, by decide⟩ ) ?_
  rintro _ _ ⟨rfl, h16⟩
  refine ⟨rfl, ?_⟩
  rcases h16 with ⟨rfl, h16⟩ | ⟨rfl, h16⟩
  · skip
    refine go_ifq PM174 (k := 4) (p1 := 25) (p2 := 20) (L' := [some (.inr (.inr (some 79))), some (.inl p1), some (.inl p2), none]) (st' := [.inl 0, .inl p2]) (w' := (SH, (u2 dt 79 17 0))) rfl (z_ne (a := p1) (by first | exact bnd h_p1 (by decide) (by decide) | exact ⟨by fail, by fail⟩)) (fun c17 => ?_) (fun c17 => ?_)
    · skip
      replace c17 := hid c17
      refine go_toq PM174 (k := 1) (pc' := 26) (L' := [some (.inr (.inr (some 79))), some (.inl p1), some (.inl p2), none]) (st' := [.inl 3, .inl 0, .inl p2]) (w' := (SH, (u2 dt 79 17 0))) rfl ?_
      refine go_callq PM174 PM146 (Q' := _) rfl rfl rfl rfl (sp_X6_isIn L xs sio (d + 37) (u2 dt 79 17 0) hI4  p2 (by first | exact h_p2 | exact bnd h_p2 (by decide) (by decide) | exact ⟨by fail, by fail⟩) 0 ⟨by decide, by decide⟩ 3 ⟨by decide, by decide⟩ ) ?_
      rintro _ _ ⟨rfl, h18⟩
      refine ⟨rfl, ?_⟩
      rcases h18 with ⟨rfl, h18⟩ | ⟨rfl, h18⟩
      · skip
        refine go_toq PM174 (k := 3) (pc' := 51) (L' := [some (.inr (.inr (some 79))), some (.inl p1), some (.inl p2), none]) (st' := [.inl p1, .inr (.inr (some 79))]) (w' := (SH, (u2 dt 79 17 0))) rfl ?_
        have hI19 : InvC (u2 (u2 dt 79 17 0) 79 9 p1) := InvC_u2 hI4 (lo := 0) (hi := 1) rfl rfl rfl (by first | exact bnd1 h_p1 (by decide) | omega) (by first | exact bnd2 h_p1 (by decide) | omega)
        have hF20 : Fr [79, 80, 82, 83, 84] dt (u2 (u2 dt 79 17 0) 79 9 p1) := Fr_u2 hF5 (by decide)
        have w21 : (u2 (u2 dt 79 17 0) 79 9 p1) 79 2 = dt 79 2 := w6
        have w22 : (u2 (u2 dt 79 17 0) 79 9 p1) 79 9 = p1 := rfl
        have w23 : (u2 (u2 dt 79 17 0) 79 9 p1) 79 10 = dt 79 10 := w8
        have w24 : (u2 (u2 dt 79 17 0) 79 9 p1) 79 11 = dt 79 11 := w9
        have w25 : (u2 (u2 dt 79 17 0) 79 9 p1) 79 12 = dt 79 12 := w10
        have w26 : (u2 (u2 dt 79 17 0) 79 9 p1) 79 13 = dt 79 13 := w11
        have w27 : (u2 (u2 dt 79 17 0) 79 9 p1) 79 14 = dt 79 14 := w12
        have w28 : (u2 (u2 dt 79 17 0) 79 9 p1) 79 15 = dt 79 15 := w13
        clear w6 w7 w8 w9 w10 w11 w12 w13
        have E8429 : (u2 (u2 dt 79 17 0) 79 9 p1) 84 = dt 84 := (funext fun _ => rfl).trans E8414
        have E8030 : (u2 (u2 dt 79 17 0) 79 9 p1) 80 = dt 80 := (funext fun _ => u2_ne (fun z => absurd z.1 (by decide))).trans E8015
        refine go_smpq PM174 (L' := [some (.inr (.inr (some 79))), some (.inl p1), some (.inl p2), none]) (st' := []) (w' := (SH, (u2 (u2 dt 79 17 0) 79 9 p1))) rfl rfl (s_pf rfl rfl rfl rfl (by first | exact bnd h_p1 (by decide) (by decide) | exact ⟨by fail, by fail⟩)) ?_
        refine go_toq PM174 (k := 2) (pc' := 56) (L' := [some (.inr (.inr (some 79))), some (.inl p1), some (.inl p2), none]) (st' := [.inl 0, .inr (.inr (some 79))]) (w' := (SH, (u2 (u2 dt 79 17 0) 79 9 p1))) rfl ?_
        have hI31 : InvC (u2 (u2 (u2 dt 79 17 0) 79 9 p1) 79 13 0) := InvC_u2 hI19 (lo := 0) (hi := 501) rfl rfl rfl (by decide) (by decide)
        have hF32 : Fr [79, 80, 82, 83, 84] dt (u2 (u2 (u2 dt 79 17 0) 79 9 p1) 79 13 0) := Fr_u2 hF20 (by decide)
        have w33 : (u2 (u2 (u2 dt 79 17 0) 79 9 p1) 79 13 0) 79 2 = dt 79 2 := w21
        have w34 : (u2 (u2 (u2 dt 79 17 0) 79 9 p1) 79 13 0) 79 9 = p1 := w22
        have w35 : (u2 (u2 (u2 dt 79 17 0) 79 9 p1) 79 13 0) 79 10 = dt 79 10 := w23
        have w36 : (u2 (u2 (u2 dt 79 17 0) 79 9 p1) 79 13 0) 79 11 = dt 79 11 := w24
        have w37 : (u2 (u2 (u2 dt 79 17 0) 79 9 p1) 79 13 0) 79 12 = dt 79 12 := w25
        have w38 : (u2 (u2 (u2 dt 79 17 0) 79 9 p1) 79 13 0) 79 13 = 0 := rfl
        have w39 : (u2 (u2 (u2 dt 79 17 0) 79 9 p1) 79 13 0) 79 14 = dt 79 14 := w27
        have w40 : (u2 (u2 (u2 dt 79 17 0) 79 9 p1) 79 13 0) 79 15 = dt 79 15 := w28
        clear w21 w22 w23 w24 w25 w26 w27 w28
        have E8441 : (u2 (u2 (u2 dt 79 17 0) 79 9 p1) 79 13 0) 84 = dt 84 := (funext fun _ => rfl).trans E8429
        have E8042 : (u2 (u2 (u2 dt 79 17 0) 79 9 p1) 79 13 0) 80 = dt 80 := (funext fun _ => u2_ne (fun z => absurd z.1 (by decide))).trans E8030
        refine go_smpq PM174 (L' := [some (.inr (.inr (some 79))), some (.inl p1), some (.inl p2), none]) (st' := []) (w' := (SH, (u2 (u2 (u2 dt 79 17 0) 79 9 p1) 79 13 0))) rfl rfl (s_pf rfl rfl rfl rfl ⟨by decide, by decide⟩) ?_
        refine go_toq PM174 (k := 2) (pc' := 61) (L' := [some (.inr (.inr (some 79))), some (.inl p1), some (.inl p2), none]) (st' := [.inl 0, .inr (.inr (some 79))]) (w' := (SH, (u2 (u2 (u2 dt 79 17 0) 79 9 p1) 79 13 0))) rfl ?_
        have hI43 : InvC (u2 (u2 (u2 (u2 dt 79 17 0) 79 9 p1) 79 13 0) 79 10 0) := InvC_u2 hI31 (lo := 0) (hi := 24) rfl rfl rfl (by decide) (by decide)
        have hF44 : Fr [79, 80, 82, 83, 84] dt (u2 (u2 (u2 (u2 dt 79 17 0) 79 9 p1) 79 13 0) 79 10 0) := Fr_u2 hF32 (by decide)
        have w45 : (u2 (u2 (u2 (u2 dt 79 17 0) 79 9 p1) 79 13 0) 79 10 0) 79 2 = dt 79 2 := w33
        have w46 : (u2 (u2 (u2 (u2 dt 79 17 0) 79 9 p1) 79 13 0) 79 10 0) 79 9 = p1 := w34
        have w47 : (u2 (u2 (u2 (u2 dt 79 17 0) 79 9 p1) 79 13 0) 79 10 0) 79 10 = 0 := rfl
        have w48 : (u2 (u2 (u2 (u2 dt 79 17 0) 79 9 p1) 79 13 0) 79 10 0) 79 11 = dt 79 11 := w36
        have w49 : (u2 (u2 (u2 (u2 dt 79 17 0) 79 9 p1) 79 13 0) 79 10 0) 79 12 = dt 79 12 := w37
        have w50 : (u2 (u2 (u2 (u2 dt 79 17 0) 79 9 p1) 79 13 0) 79 10 0) 79 13 = 0 := w38
        have w51 : (u2 (u2 (u2 (u2 dt 79 17 0) 79 9 p1) 79 13 0) 79 10 0) 79 14 = dt 79 14 := w39
        have w52 : (u2 (u2 (u2 (u2 dt 79 17 0) 79 9 p1) 79 13 0) 79 10 0) 79 15 = dt 79 15 := w40
        clear w33 w34 w35 w36 w37 w38 w39 w40
        have E8453 : (u2 (u2 (u2 (u2 dt 79 17 0) 79 9 p1) 79 13 0) 79 10 0) 84 = dt 84 := (funext fun _ => rfl).trans E8441
        have E8054 : (u2 (u2 (u2 (u2 dt 79 17 0) 79 9 p1) 79 13 0) 79 10 0) 80 = dt 80 := (funext fun _ => u2_ne (fun z => absurd z.1 (by decide))).trans E8042
        refine go_smpq PM174 (L' := [some (.inr (.inr (some 79))), some (.inl p1), some (.inl p2), none]) (st' := []) (w' := (SH, (u2 (u2 (u2 (u2 dt 79 17 0) 79 9 p1) 79 13 0) 79 10 0))) rfl rfl (s_pf rfl rfl rfl rfl ⟨by decide, by decide⟩) ?_
        refine go_toq PM174 (k := 2) (pc' := 66) (L' := [some (.inr (.inr (some 79))), some (.inl p1), some (.inl p2), none]) (st' := [.inl 0, .inr (.inr (some 79))]) (w' := (SH, (u2 (u2 (u2 (u2 dt 79 17 0) 79 9 p1) 79 13 0) 79 10 0))) rfl ?_
        have hI55 : InvC (u2 (u2 (u2 (u2 (u2 dt 79 17 0) 79 9 p1) 79 13 0) 79 10 0) 79 11 0) := InvC_u2 hI43 (lo := 0) (hi := 510) rfl rfl rfl (by decide) (by decide)
        have hF56 : Fr [79, 80, 82, 83, 84] dt (u2 (u2 (u2 (u2 (u2 dt 79 17 0) 79 9 p1) 79 13 0) 79 10 0) 79 11 0) := Fr_u2 hF44 (by decide)
        have w57 : (u2 (u2 (u2 (u2 (u2 dt 79 17 0) 79 9 p1) 79 13 0) 79 10 0) 79 11 0) 79 2 = dt 79 2 := w45
        have w58 : (u2 (u2 (u2 (u2 (u2 dt 79 17 0) 79 9 p1) 79 13 0) 79 10 0) 79 11 0) 79 9 = p1 := w46
        have w59 : (u2 (u2 (u2 (u2 (u2 dt 79 17 0) 79 9 p1) 79 13 0) 79 10 0) 79 11 0) 79 10 = 0 := w47
        have w60 : (u2 (u2 (u2 (u2 (u2 dt 79 17 0) 79 9 p1) 79 13 0) 79 10 0) 79 11 0) 79 11 = 0 := rfl
        have w61 : (u2 (u2 (u2 (u2 (u2 dt 79 17 0) 79 9 p1) 79 13 0) 79 10 0) 79 11 0) 79 12 = dt 79 12 := w49
        have w62 : (u2 (u2 (u2 (u2 (u2 dt 79 17 0) 79 9 p1) 79 13 0) 79 10 0) 79 11 0) 79 13 = 0 := w50
        have w63 : (u2 (u2 (u2 (u2 (u2 dt 79 17 0) 79 9 p1) 79 13 0) 79 10 0) 79 11 0) 79 14 = dt 79 14 := w51
        have w64 : (u2 (u2 (u2 (u2 (u2 dt 79 17 0) 79 9 p1) 79 13 0) 79 10 0) 79 11 0) 79 15 = dt 79 15 := w52
        clear w45 w46 w47 w48 w49 w50 w51 w52
        have E8465 : (u2 (u2 (u2 (u2 (u2 dt 79 17 0) 79 9 p1) 79 13 0) 79 10 0) 79 11 0) 84 = dt 84 := (funext fun _ => rfl).trans E8453
        have E8066 : (u2 (u2 (u2 (u2 (u2 dt 79 17 0) 79 9 p1) 79 13 0) 79 10 0) 79 11 0) 80 = dt 80 := (funext fun _ => u2_ne (fun z => absurd z.1 (by decide))).trans E8054
        refine go_smpq PM174 (L' := [some (.inr (.inr (some 79))), some (.inl p1), some (.inl p2), none]) (st' := []) (w' := (SH, (u2 (u2 (u2 (u2 (u2 dt 79 17 0) 79 9 p1) 79 13 0) 79 10 0) 79 11 0))) rfl rfl (s_pf rfl rfl rfl rfl ⟨by decide, by decide⟩) ?_
        refine go_toq PM174 (k := 1) (pc' := 70) (L' := [some (.inr (.inr (some 79))), some (.inl p1), some (.inl p2), none]) (st' := [.inr (.inr (some 79))]) (w' := (SH, (u2 (u2 (u2 (u2 (u2 dt 79 17 0) 79 9 p1) 79 13 0) 79 10 0) 79 11 0))) rfl ?_
        refine go_callq PM174 PM159 (Q' := _) rfl rfl rfl rfl (sp_X6_next0 L xs sio (d + 31) (u2 (u2 (u2 (u2 (u2 dt 79 17 0) 79 9 p1) 79 13 0) 79 10 0) 79 11 0) hI55   (by first | exact True.intro | with_reducible assumption | exact unhid (by with_reducible assumption) | rfl | omega | trivial | exact hI4 (by fail) (by fail) | exact hI5 (by fail) (by fail))) ?_
        rintro _ _ ⟨dt68, rfl, hI69, hF70, h67⟩
        refine ⟨rfl, ?_⟩
        have hF71 : Fr [79, 80, 82, 83, 84] dt dt68 := Fr_tr hF56 hF70 (by decide)
        have hM72 : MW (dt68 80) := MW_fr (d0 := (u2 (u2 (u2 (u2 (u2 dt 79 17 0) 79 9 p1) 79 13 0) 79 10 0) 79 11 0)) hM hF70 (by decide)
        have E8073 : dt68 80 = dt 80 := (funext (hF70 80 (by decide))).trans E8066
        have E8474 : dt68 84 = dt 84 := (funext (hF70 84 (by decide))).trans E8465
        rcases h67 with ⟨rfl, h67⟩
        obtain ⟨h67_0, h67_1, h67_2, h67_3, h67_4, h67_5, h67_6, h67_7, h67_8⟩ := h67
        have w75 : dt68 79 2 = dt 79 2 := h67_3.trans w57
        have w76 : dt68 79 9 = p1 := h67_4.trans w58
        have w77 : dt68 79 10 = 0 := h67_5.trans w59
        have w78 : dt68 79 11 = 0 := h67_6.trans w60
        have w79 : dt68 79 12 = dt 79 12 := h67_7.trans w61
        clear h67_3 w57 h67_4 w58 h67_5 w59 h67_6 w60 h67_7 w61
        refine go_toq PM174 (k := 2) (pc' := 75) (L' := [some (.inr (.inr (some 79))), some (.inl p1), some (.inl p2), some (.inl 1)]) (st' := []) (w' := (SH, dt68)) rfl ?_
        have loop139 : ∀ (k_ : Nat) (l75_3 : Int) (dt126 : Nat → Nat → Int) (hI127 : InvC dt126) (hF128 : Fr [79, 80, 82, 83, 84] dt dt126) (hM_dt126 : MW (dt126 80)) (i129 : 0 ≤ l75_3 ∧ l75_3 ≤ 1) (i130 : l75_3 = 1 → (¬ dt126 79 14 = 0 → dt126 79 15 + 1 ≤ dt126 79 13) ∧ dt126 79 13 ≤ 500) (i131 : dt126 79 15 ≤ 500) (i132 : l75_3 = 1 → dt126 79 11 ≤ dt126 79 15) (i133 : l75_3 = 1 → p1 = 1 → dt126 79 10 ≤ 16) (i134 : l75_3 = 1 → p1 = 0 → ARW (dt126 82) (dt126 79 10)) (i135 : l75_3 = 1 → p1 = 1 → LRW (dt126 83) (dt126 84) (dt126 79 10) (dt126 79 11)) (i136 : dt126 79 2 = dt 79 2) (i137 : dt126 79 9 = p1) (i138 : dt126 80 = dt 80), (l75_3 * (502 - dt126 79 15)).toNat < k_ → GO (am_XX L xs sio) (d + 38) 174 75 [some (.inr (.inr (some 79))), some (.inl p1), some (.inl p2), some (.inl l75_3)] [] (SH, dt126) (fun r w2 => ∃ dt2 : Nat → Nat → Int, w2 = (SH, dt2) ∧ InvC dt2 ∧ Fr [79, 80, 82, 83, 84] dt dt2 ∧ ((∃ v : Int, r = some (.inl v) ∧ ((-1) ≤ v ∧ v ≤ 24) ∧ (dt2 79 12 = 0) ∧ (dt2 79 2 = dt 79 2) ∧ (MW (dt2 80)) ∧ (dt2 80 0 = dt 80 0) ∧ (dt2 80 1 = dt 80 1) ∧ (dt2 80 2 = dt 80 2) ∧ (dt2 80 3 = dt 80 3) ∧ (dt2 80 4 = dt 80 4) ∧ (dt2 80 5 = dt 80 5) ∧ (∀ j : Nat, (j = 1 ∨ 5320 ≤ j) → dt2 80 j = dt 80 j)))) := by
          intro k_
          induction k_ with
          | zero => intro l75_3 dt126 hI127 hF128 hM_dt126 i129 i130 i131 i132 i133 i134 i135 i136 i137 i138 hm; exact absurd hm (Nat.not_lt_zero _)
          | succ k_ ih_loop139 =>
            intro l75_3 dt126 hI127 hF128 hM_dt126 i129 i130 i131 i132 i133 i134 i135 i136 i137 i138 hm
            replace i130 := hid i130
            replace i132 := hid i132
            replace i133 := hid i133
            replace i134 := hid i134
            replace i135 := hid i135
            have q10 : 0 ≤ dt126 79 10 ∧ dt126 79 10 ≤ 24 := InvC_get (by assumption) 79 10 rfl rfl
            have q11 : 0 ≤ dt126 79 11 ∧ dt126 79 11 ≤ 510 := InvC_get (by assumption) 79 11 rfl rfl
            have hE80 := i138
            have hI4 := i134
            have hI5 := i135
            have hm1 : l75_3 = 1 → (l75_3 * (502 - dt126 79 15)).toNat = (502 - dt126 79 15).toNat := fun e => by rw [e, Int.one_mul]
            replace hm1 := hid hm1
            refine go_ifq PM174 (k := 1) (p1 := 123) (p2 := 79) (L' := [some (.inr (.inr (some 79))), some (.inl p1), some (.inl p2), some (.inl l75_3)]) (st' := []) (w' := (SH, dt126)) rfl (z_eq (a := l75_3) (by first | exact bnd i129 (by decide) (by decide) | exact ⟨by fail, by fail⟩)) (fun c140 => ?_) (fun c140 => ?_)
            · skip
              refine go_toq PM174 (k := 2) (pc' := 125) (L' := [some (.inr (.inr (some 79))), some (.inl p1), some (.inl p2), some (.inl l75_3)]) (st' := [.inl 0, .inr (.inr (some 79))]) (w' := (SH, dt126)) rfl ?_
              have hI141 : InvC (u2 dt126 79 12 0) := InvC_u2 hI127 (lo := 0) (hi := 500) rfl rfl rfl (by decide) (by decide)
              have hF142 : Fr [79, 80, 82, 83, 84] dt (u2 dt126 79 12 0) := Fr_u2 hF128 (by decide)
              have w143 : (u2 dt126 79 12 0) 79 2 = dt126 79 2 := rfl
              have w144 : (u2 dt126 79 12 0) 79 9 = dt126 79 9 := rfl
              have w145 : (u2 dt126 79 12 0) 79 10 = dt126 79 10 := rfl
              have w146 : (u2 dt126 79 12 0) 79 11 = dt126 79 11 := rfl
              have w147 : (u2 dt126 79 12 0) 79 12 = 0 := rfl
              have w148 : (u2 dt126 79 12 0) 79 13 = dt126 79 13 := rfl
              have w149 : (u2 dt126 79 12 0) 79 14 = dt126 79 14 := rfl
              have w150 : (u2 dt126 79 12 0) 79 15 = dt126 79 15 := rfl
              have E84151 : (u2 dt126 79 12 0) 84 = dt126 84 := funext fun _ => rfl
              have E80152 : (u2 dt126 79 12 0) 80 = dt 80 := (funext fun _ => u2_ne (fun z => absurd z.1 (by decide))).trans hE80
              refine go_smpq PM174 (L' := [some (.inr (.inr (some 79))), some (.inl p1), some (.inl p2), some (.inl l75_3)]) (st' := []) (w' := (SH, (u2 dt126 79 12 0))) rfl rfl (s_pf rfl rfl rfl rfl ⟨by decide, by decide⟩) ?_
              have r153 : (-2147483648) ≤ dt126 79 17 ∧ dt126 79 17 ≤ 2147483647 := InvC_get hI127 79 17 rfl rfl
              refine go_toq PM174 (k := 3) (pc' := 133) (L' := [some (.inr (.inr (some 79))), some (.inl p1), some (.inl p2), some (.inl l75_3)]) (st' := [.inl (dt126 79 17), .inr (.inr (some 79))]) (w' := (SH, (u2 dt126 79 12 0))) rfl ?_
              have hI154 : InvC (u2 (u2 dt126 79 12 0) 79 19 (dt126 79 17)) := InvC_u2 hI141 (lo := -2147483648) (hi := 2147483647) rfl rfl rfl (by first | exact bnd1 r153 (by decide) | fail) (by first | exact bnd2 r153 (by decide) | fail)
              have hF155 : Fr [79, 80, 82, 83, 84] dt (u2 (u2 dt126 79 12 0) 79 19 (dt126 79 17)) := Fr_u2 hF142 (by decide)
              have w156 : (u2 (u2 dt126 79 12 0) 79 19 (dt126 79 17)) 79 2 = dt126 79 2 := w143
              have w157 : (u2 (u2 dt126 79 12 0) 79 19 (dt126 79 17)) 79 9 = dt126 79 9 := w144
              have w158 : (u2 (u2 dt126 79 12 0) 79 19 (dt126 79 17)) 79 10 = dt126 79 10 := w145
              have w159 : (u2 (u2 dt126 79 12 0) 79 19 (dt126 79 17)) 79 11 = dt126 79 11 := w146
              have w160 : (u2 (u2 dt126 79 12 0) 79 19 (dt126 79 17)) 79 12 = 0 := w147
              have w161 : (u2 (u2 dt126 79 12 0) 79 19 (dt126 79 17)) 79 13 = dt126 79 13 := w148
              have w162 : (u2 (u2 dt126 79 12 0) 79 19 (dt126 79 17)) 79 14 = dt126 79 14 := w149
              have w163 : (u2 (u2 dt126 79 12 0) 79 19 (dt126 79 17)) 79 15 = dt126 79 15 := w150
              clear w143 w144 w145 w146 w147 w148 w149 w150
              have E84164 : (u2 (u2 dt126 79 12 0) 79 19 (dt126 79 17)) 84 = dt126 84 := (funext fun _ => rfl).trans E84151
              have E80165 : (u2 (u2 dt126 79 12 0) 79 19 (dt126 79 17)) 80 = dt 80 := (funext fun _ => u2_ne (fun z => absurd z.1 (by decide))).trans E80152
              refine go_smpq PM174 (L' := [some (.inr (.inr (some 79))), some (.inl p1), some (.inl p2), some (.inl l75_3)]) (st' := []) (w' := (SH, (u2 (u2 dt126 79 12 0) 79 19 (dt126 79 17)))) rfl rfl (s_pf rfl rfl rfl rfl (by first | exact bnd r153 (by decide) (by decide) | exact ⟨by fail, by fail⟩)) ?_
              refine go_ifq PM174 (k := 2) (p1 := 145) (p2 := 141) (L' := [some (.inr (.inr (some 79))), some (.inl p1), some (.inl p2), some (.inl l75_3)]) (st' := [.inr (.inr (some 79))]) (w' := (SH, (u2 (u2 dt126 79 12 0) 79 19 (dt126 79 17)))) rfl (z_eq (a := l75_3) (by first | exact bnd i129 (by decide) (by decide) | exact ⟨by fail, by fail⟩)) (fun c166 => ?_) (fun c166 => ?_)
              · skip
                have r167 : (-2147483648) ≤ dt126 79 18 ∧ dt126 79 18 ≤ 2147483647 := InvC_get hI127 79 18 rfl rfl
                refine go_toq PM174 (k := 2) (pc' := 149) (L' := [some (.inr (.inr (some 79))), some (.inl p1), some (.inl p2), some (.inl l75_3)]) (st' := [.inl (dt126 79 18), .inr (.inr (some 79))]) (w' := (SH, (u2 (u2 dt126 79 12 0) 79 19 (dt126 79 17)))) rfl ?_
                have hI168 : InvC (u2 (u2 (u2 dt126 79 12 0) 79 19 (dt126 79 17)) 79 21 (dt126 79 18)) := InvC_u2 hI154 (lo := -2147483648) (hi := 2147483647) rfl rfl rfl (by first | exact bnd1 r167 (by decide) | fail) (by first | exact bnd2 r167 (by decide) | fail)
                have hF169 : Fr [79, 80, 82, 83, 84] dt (u2 (u2 (u2 dt126 79 12 0) 79 19 (dt126 79 17)) 79 21 (dt126 79 18)) := Fr_u2 hF155 (by decide)
                have w170 : (u2 (u2 (u2 dt126 79 12 0) 79 19 (dt126 79 17)) 79 21 (dt126 79 18)) 79 2 = dt126 79 2 := w156
                have w171 : (u2 (u2 (u2 dt126 79 12 0) 79 19 (dt126 79 17)) 79 21 (dt126 79 18)) 79 9 = dt126 79 9 := w157
                have w172 : (u2 (u2 (u2 dt126 79 12 0) 79 19 (dt126 79 17)) 79 21 (dt126 79 18)) 79 10 = dt126 79 10 := w158
                have w173 : (u2 (u2 (u2 dt126 79 12 0) 79 19 (dt126 79 17)) 79 21 (dt126 79 18)) 79 11 = dt126 79 11 := w159
                have w174 : (u2 (u2 (u2 dt126 79 12 0) 79 19 (dt126 79 17)) 79 21 (dt126 79 18)) 79 12 = 0 := w160
                have w175 : (u2 (u2 (u2 dt126 79 12 0) 79 19 (dt126 79 17)) 79 21 (dt126 79 18)) 79 13 = dt126 79 13 := w161
                have w176 : (u2 (u2 (u2 dt126 79 12 0) 79 19 (dt126 79 17)) 79 21 (dt126 79 18)) 79 14 = dt126 79 14 := w162
                have w177 : (u2 (u2 (u2 dt126 79 12 0) 79 19 (dt126 79 17)) 79 21 (dt126 79 18)) 79 15 = dt126 79 15 := w163
                clear w156 w157 w158 w159 w160 w161 w162 w163
                have E84178 : (u2 (u2 (u2 dt126 79 12 0) 79 19 (dt126 79 17)) 79 21 (dt126 79 18)) 84 = dt126 84 := (funext fun _ => rfl).trans E84164
                have E80179 : (u2 (u2 (u2 dt126 79 12 0) 79 19 (dt126 79 17)) 79 21 (dt126 79 18)) 80 = dt 80 := (funext fun _ => u2_ne (fun z => absurd z.1 (by decide))).trans E80165
                refine go_smpq PM174 (L' := [some (.inr (.inr (some 79))), some (.inl p1), some (.inl p2), some (.inl l75_3)]) (st' := []) (w' := (SH, (u2 (u2 (u2 dt126 79 12 0) 79 19 (dt126 79 17)) 79 21 (dt126 79 18)))) rfl rfl (s_pf rfl rfl rfl rfl (by first | exact bnd r167 (by decide) (by decide) | exact ⟨by fail, by fail⟩)) ?_
                refine go_ifq PM174 (k := 1) (p1 := 158) (p2 := 156) (L' := [some (.inr (.inr (some 79))), some (.inl p1), some (.inl p2), some (.inl l75_3)]) (st' := []) (w' := (SH, (u2 (u2 (u2 dt126 79 12 0) 79 19 (dt126 79 17)) 79 21 (dt126 79 18)))) rfl (z_ne (a := l75_3) (by first | exact bnd i129 (by decide) (by decide) | exact ⟨by fail, by fail⟩)) (fun c180 => ?_) (fun c180 => ?_)
                · skip
                  replace c180 := hid c180
                  refine go_toq PM174 (k := 2) (pc' := 160) (L' := [some (.inr (.inr (some 79))), some (.inl p1), some (.inl p2), some (.inl l75_3)]) (st' := [.inl p2, .inr (.inr (some 79))]) (w' := (SH, (u2 (u2 (u2 dt126 79 12 0) 79 19 (dt126 79 17)) 79 21 (dt126 79 18)))) rfl ?_
                  refine go_callq PM174 PM175 (Q' := _) rfl rfl rfl rfl (sp_X6_keeps_q1 L xs sio (d + 37) (u2 (u2 (u2 dt126 79 12 0) 79 19 (dt126 79 17)) 79 21 (dt126 79 18)) hI168 hM_dt126  p2 (by first | exact h_p2 | exact bnd h_p2 (by decide) (by decide) | exact ⟨by omega, by omega⟩) (by first | exact True.intro | with_reducible assumption | exact unhid (by with_reducible assumption) | rfl | (have z_ := unhid c180; omega) | trivial | exact hI4 (by fail) (by fail) | exact hI5 (by fail) (by fail)) (by first | exact True.intro | with_reducible assumption | exact unhid (by with_reducible assumption) | rfl | (have z_ := unhid c180; omega) | trivial | exact hI4 (by fail) (by fail) | exact hI5 (by fail) (by fail)) (by first | exact True.intro | with_reducible assumption | exact unhid (by with_reducible assumption) | rfl | omega | trivial | exact hI4 (by fail) (by fail) | exact hI5 (by fail) (by fail)) (by first | exact True.intro | with_reducible assumption | exact unhid (by with_reducible assumption) | rfl | (have z_ := unhid c180; omega) | trivial | exact hI4 (by fail) (by fail) | exact hI5 (by fail) (by fail))) ?_
                  rintro _ _ ⟨dt182, rfl, hI183, hF184, h181⟩
                  refine ⟨rfl, ?_⟩
                  have hF185 : Fr [79, 80, 82, 83, 84] dt dt182 := Fr_tr hF169 hF184 (by decide)
                  have w186 : dt182 79 2 = dt126 79 2 := (hF184 79 (by decide) 2).trans w170
                  have w187 : dt182 79 9 = dt126 79 9 := (hF184 79 (by decide) 9).trans w171
                  have w188 : dt182 79 10 = dt126 79 10 := (hF184 79 (by decide) 10).trans w172
                  have w189 : dt182 79 11 = dt126 79 11 := (hF184 79 (by decide) 11).trans w173
                  have w190 : dt182 79 12 = 0 := (hF184 79 (by decide) 12).trans w174
                  have w191 : dt182 79 13 = dt126 79 13 := (hF184 79 (by decide) 13).trans w175
                  have w192 : dt182 79 14 = dt126 79 14 := (hF184 79 (by decide) 14).trans w176
                  have w193 : dt182 79 15 = dt126 79 15 := (hF184 79 (by decide) 15).trans w177
                  clear w170 w171 w172 w173 w174 w175 w176 w177
                  have E84194 : dt182 84 = dt126 84 := (funext (hF184 84 (by decide))).trans E84178
                  rcases h181 with ⟨rfl, h181⟩
                  have hM195 : MW (dt182 80) := h181.1
                  obtain ⟨h181_0, h181_1, h181_2, h181_3, h181_4, h181_5, h181_6, h181_7⟩ := h181
                  have r196 : 0 ≤ dt182 79 10 ∧ dt182 79 10 ≤ 24 := InvC_get hI183 79 10 rfl rfl
                  refine go_retq PM174 (k := 2) (r := some (.inl (dt182 79 10))) (w1 := (SH, dt182)) rfl ?_
                  exact ⟨dt182, rfl, hI183, hF185, ⟨_, rfl, (by first | exact bnd r196 (by decide) (by decide) | exact ⟨by fail, by fail⟩), ⟨by first | exact True.intro | with_reducible assumption | exact unhid (by with_reducible assumption) | rfl | fail | trivial, by first | exact True.intro | with_reducible assumption | exact unhid (by with_reducible assumption) | rfl | omega | trivial, by first | assumption | exact hM, by first | rfl | exact congrFun E80179 0 | exact Eq.trans (by assumption) (congrFun E80179 0), by first | rfl | exact congrFun E80179 1 | exact Eq.trans (by assumption) (congrFun E80179 1), by first | rfl | exact congrFun E80179 2 | exact Eq.trans (by assumption) (congrFun E80179 2), by first | rfl | exact congrFun E80179 3 | exact Eq.trans (by assumption) (congrFun E80179 3), by first | rfl | exact congrFun E80179 4 | exact Eq.trans (by assumption) (congrFun E80179 4), by first | rfl | exact congrFun E80179 5 | exact Eq.trans (by assumption) (congrFun E80179 5), by first | exact fun _ _ => rfl | exact fun j hj => (h181_7 j hj).trans (congrFun E80179 j) | exact fun j hj => congrFun E80179 j | exact fun j hj => Eq.trans (h181_7 j hj) (congrFun (by assumption) j)⟩⟩⟩
                · skip
                  refine go_retq PM174 (k := 1) (r := some (.inl (-1))) (w1 := (SH, (u2 (u2 (u2 dt126 79 12 0) 79 19 (dt126 79 17)) 79 21 (dt126 79 18)))) rfl ?_
                  exact ⟨(u2 (u2 (u2 dt126 79 12 0) 79 19 (dt126 79 17)) 79 21 (dt126 79 18)), rfl, hI168, hF169, ⟨_, rfl, ⟨by decide, by decide⟩, ⟨by first | exact True.intro | with_reducible assumption | exact unhid (by with_reducible assumption) | rfl | fail | trivial, by first | exact True.intro | with_reducible assumption | exact unhid (by with_reducible assumption) | rfl | omega | trivial, by first | assumption | exact hM, by first | rfl | exact congrFun E80179 0 | exact Eq.trans (by assumption) (congrFun E80179 0), by first | rfl | exact congrFun E80179 1 | exact Eq.trans (by assumption) (congrFun E80179 1), by first | rfl | exact congrFun E80179 2 | exact Eq.trans (by assumption) (congrFun E80179 2), by first | rfl | exact congrFun E80179 3 | exact Eq.trans (by assumption) (congrFun E80179 3), by first | rfl | exact congrFun E80179 4 | exact Eq.trans (by assumption) (congrFun E80179 4), by first | rfl | exact congrFun E80179 5 | exact Eq.trans (by assumption) (congrFun E80179 5), by first | exact fun _ _ => rfl | exact fun j hj => (hI j hj).trans (congrFun E80179 j) | exact fun j hj => congrFun E80179 j | exact fun j hj => Eq.trans (hI j hj) (congrFun (by assumption) j)⟩⟩⟩
              · skip
                replace c166 := hid c166
                refine go_toq PM174 (k := 2) (pc' := 149) (L' := [some (.inr (.inr (some 79))), some (.inl p1), some (.inl p2), some (.inl l75_3)]) (st' := [.inl (-1), .inr (.inr (some 79))]) (w' := (SH, (u2 (u2 dt126 79 12 0) 79 19 (dt126 79 17)))) rfl ?_
                have hI197 : InvC (u2 (u2 (u2 dt126 79 12 0) 79 19 (dt126 79 17)) 79 21 (-1)) := InvC_u2 hI154 (lo := -2147483648) (hi := 2147483647) rfl rfl rfl (by decide) (by decide)
                have hF198 : Fr [79, 80, 82, 83, 84] dt (u2 (u2 (u2 dt126 79 12 0) 79 19 (dt126 79 17)) 79 21 (-1)) := Fr_u2 hF155 (by decide)
                have w199 : (u2 (u2 (u2 dt126 79 12 0) 79 19 (dt126 79 17)) 79 21 (-1)) 79 2 = dt126 79 2 := w156
                have w200 : (u2 (u2 (u2 dt126 79 12 0) 79 19 (dt126 79 17)) 79 21 (-1)) 79 9 = dt126 79 9 := w157
                have w201 : (u2 (u2 (u2 dt126 79 12 0) 79 19 (dt126 79 17)) 79 21 (-1)) 79 10 = dt126 79 10 := w158
                have w202 : (u2 (u2 (u2 dt126 79 12 0) 79 19 (dt126 79 17)) 79 21 (-1)) 79 11 = dt126 79 11 := w159
                have w203 : (u2 (u2 (u2 dt126 79 12 0) 79 19 (dt126 79 17)) 79 21 (-1)) 79 12 = 0 := w160
                have w204 : (u2 (u2 (u2 dt126 79 12 0) 79 19 (dt126 79 17)) 79 21 (-1)) 79 13 = dt126 79 13 := w161
                have w205 : (u2 (u2 (u2 dt126 79 12 0) 79 19 (dt126 79 17)) 79 21 (-1)) 79 14 = dt126 79 14 := w162
                have w206 : (u2 (u2 (u2 dt126 79 12 0) 79 19 (dt126 79 17)) 79 21 (-1)) 79 15 = dt126 79 15 := w163
                clear w156 w157 w158 w159 w160 w161 w162 w163
                have E84207 : (u2 (u2 (u2 dt126 79 12 0) 79 19 (dt126 79 17)) 79 21 (-1)) 84 = dt126 84 := (funext fun _ => rfl).trans E84164
                have E80208 : (u2 (u2 (u2 dt126 79 12 0) 79 19 (dt126 79 17)) 79 21 (-1)) 80 = dt 80 := (funext fun _ => u2_ne (fun z => absurd z.1 (by decide))).trans E80165
                refine go_smpq PM174 (L' := [some (.inr (.inr (some 79))), some (.inl p1), some (.inl p2), some (.inl l75_3)]) (st' := []) (w' := (SH, (u2 (u2 (u2 dt126 79 12 0) 79 19 (dt126 79 17)) 79 21 (-1)))) rfl rfl (s_pf rfl rfl rfl rfl ⟨by decide, by decide⟩) ?_
                refine go_ifq PM174 (k := 1) (p1 := 158) (p2 := 156) (L' := [some (.inr (.inr (some 79))), some (.inl p1), some (.inl p2), some (.inl l75_3)]) (st' := []) (w' := (SH, (u2 (u2 (u2 dt126 79 12 0) 79 19 (dt126 79 17)) 79 21 (-1)))) rfl (z_ne (a := l75_3) (by first | exact bnd i129 (by decide) (by decide) | exact ⟨by fail, by fail⟩)) (fun c209 => ?_) (fun c209 => ?_)
                · skip
                  replace c209 := hid c209
                  refine go_toq PM174 (k := 2) (pc' := 160) (L' := [some (.inr (.inr (some 79))), some (.inl p1), some (.inl p2), some (.inl l75_3)]) (st' := [.inl p2, .inr (.inr (some 79))]) (w' := (SH, (u2 (u2 (u2 dt126 79 12 0) 79 19 (dt126 79 17)) 79 21 (-1)))) rfl ?_
                  refine go_callq PM174 PM175 (Q' := _) rfl rfl rfl rfl (sp_X6_keeps_q1 L xs sio (d + 37) (u2 (u2 (u2 dt126 79 12 0) 79 19 (dt126 79 17)) 79 21 (-1)) hI197 hM_dt126  p2 (by first | exact h_p2 | exact bnd h_p2 (by decide) (by decide) | exact ⟨by omega, by omega⟩) (by first | exact True.intro | with_reducible assumption | exact unhid (by with_reducible assumption) | rfl | (have z_ := unhid c209; omega) | trivial | exact hI4 (by fail) (by fail) | exact hI5 (by fail) (by fail)) (by first | exact True.intro | with_reducible assumption | exact unhid (by with_reducible assumption) | rfl | (have z_ := unhid c209; omega) | trivial | exact hI4 (by fail) (by fail) | exact hI5 (by fail) (by fail)) (by first | exact True.intro | with_reducible assumption | exact unhid (by with_reducible assumption) | rfl | omega | trivial | exact hI4 (by fail) (by fail) | exact hI5 (by fail) (by fail)) (by first | exact True.intro | with_reducible assumption | exact unhid (by with_reducible assumption) | rfl | (have z_ := unhid c209; omega) | trivial | exact hI4 (by fail) (by fail) | exact hI5 (by fail) (by fail))) ?_
                  rintro _ _ ⟨dt211, rfl, hI212, hF213, h210⟩
                  refine ⟨rfl, ?_⟩
                  have hF214 : Fr [79, 80, 82, 83, 84] dt dt211 := Fr_tr hF198 hF213 (by decide)
                  have w215 : dt211 79 2 = dt126 79 2 := (hF213 79 (by decide) 2).trans w199
                  have w216 : dt211 79 9 = dt126 79 9 := (hF213 79 (by decide) 9).trans w200
                  have w217 : dt211 79 10 = dt126 79 10 := (hF213 79 (by decide) 10).trans w201
                  have w218 : dt211 79 11 = dt126 79 11 := (hF213 79 (by decide) 11).trans w202
                  have w219 : dt211 79 12 = 0 := (hF213 79 (by decide) 12).trans w203
                  have w220 : dt211 79 13 = dt126 79 13 := (hF213 79 (by decide) 13).trans w204
                  have w221 : dt211 79 14 = dt126 79 14 := (hF213 79 (by decide) 14).trans w205
                  have w222 : dt211 79 15 = dt126 79 15 := (hF213 79 (by decide) 15).trans w206
                  clear w199 w200 w201 w202 w203 w204 w205 w206
                  have E84223 : dt211 84 = dt126 84 := (funext (hF213 84 (by decide))).trans E84207
                  rcases h210 with ⟨rfl, h210⟩
                  have hM224 : MW (dt211 80) := h210.1
                  obtain ⟨h210_0, h210_1, h210_2, h210_3, h210_4, h210_5, h210_6, h210_7⟩ := h210
                  have r225 : 0 ≤ dt211 79 10 ∧ dt211 79 10 ≤ 24 := InvC_get hI212 79 10 rfl rfl
                  refine go_retq PM174 (k := 2) (r := some (.inl (dt211 79 10))) (w1 := (SH, dt211)) rfl ?_
                  exact ⟨dt211, rfl, hI212, hF214, ⟨_, rfl, (by first | exact bnd r225 (by decide) (by decide) | exact ⟨by fail, by fail⟩), ⟨by first | exact True.intro | with_reducible assumption | exact unhid (by with_reducible assumption) | rfl | fail | trivial, by first | exact True.intro | with_reducible assumption | exact unhid (by with_reducible assumption) | rfl | omega | trivial, by first | assumption | exact hM, by first | rfl | exact congrFun E80208 0 | exact Eq.trans (by assumption) (congrFun E80208 0), by first | rfl | exact congrFun E80208 1 | exact Eq.trans (by assumption) (congrFun E80208 1), by first | rfl | exact congrFun E80208 2 | exact Eq.trans (by assumption) (congrFun E80208 2), by first | rfl | exact congrFun E80208 3 | exact Eq.trans (by assumption) (congrFun E80208 3), by first | rfl | exact congrFun E80208 4 | exact Eq.trans (by assumption) (congrFun E80208 4), by first | rfl | exact congrFun E80208 5 | exact Eq.trans (by assumption) (congrFun E80208 5), by first | exact fun _ _ => rfl | exact fun j hj => (h210_7 j hj).trans (congrFun E80208 j) | exact fun j hj => congrFun E80208 j | exact fun j hj => Eq.trans (h210_7 j hj) (congrFun (by assumption) j)⟩⟩⟩
                · exfalso; (have z_ := unhid c166; omega)
            · skip
              replace c140 := hid c140
              have u6_ := hid (And.intro (unhid c17) (And.intro (unhid i130) (And.intro (unhid i132) (And.intro (unhid i133) (And.intro (unhid hm1) (unhid c140))))))
              have hc226 : l75_3 = 1 := by (have z_ := unhid c140; omega)
              subst hc226
              have r227 : (-2147483648) ≤ dt126 79 14 ∧ dt126 79 14 ≤ 2147483647 := InvC_get hI127 79 14 rfl rfl
              refine go_ifq PM174 (k := 2) (p1 := 123) (p2 := 86) (L' := [some (.inr (.inr (some 79))), some (.inl p1), some (.inl p2), some (.inl 1)]) (st' := []) (w' := (SH, dt126)) rfl (z_eq (a := dt126 79 14) (by first | exact bnd r227 (by decide) (by decide) | exact ⟨by fail, by fail⟩)) (fun c228 => ?_) (fun c228 => ?_)
              · skip
                refine go_toq PM174 (k := 2) (pc' := 125) (L' := [some (.inr (.inr (some 79))), some (.inl p1), some (.inl p2), some (.inl 1)]) (st' := [.inl 0, .inr (.inr (some 79))]) (w' := (SH, dt126)) rfl ?_
                have hI229 : InvC (u2 dt126 79 12 0) := InvC_u2 hI127 (lo := 0) (hi := 500) rfl rfl rfl (by decide) (by decide)
                have hF230 : Fr [79, 80, 82, 83, 84] dt (u2 dt126 79 12 0) := Fr_u2 hF128 (by decide)
                have w231 : (u2 dt126 79 12 0) 79 2 = dt126 79 2 := rfl
                have w232 : (u2 dt126 79 12 0) 79 9 = dt126 79 9 := rfl
                have w233 : (u2 dt126 79 12 0) 79 10 = dt126 79 10 := rfl
                have w234 : (u2 dt126 79 12 0) 79 11 = dt126 79 11 := rfl
                have w235 : (u2 dt126 79 12 0) 79 12 = 0 := rfl
                have w236 : (u2 dt126 79 12 0) 79 13 = dt126 79 13 := rfl
                have w237 : (u2 dt126 79 12 0) 79 14 = dt126 79 14 := rfl
                have w238 : (u2 dt126 79 12 0) 79 15 = dt126 79 15 := rfl
                have E84239 : (u2 dt126 79 12 0) 84 = dt126 84 := funext fun _ => rfl
                have E80240 : (u2 dt126 79 12 0) 80 = dt 80 := (funext fun _ => u2_ne (fun z => absurd z.1 (by decide))).trans hE80
                refine go_smpq PM174 (L' := [some (.inr (.inr (some 79))), some (.inl p1), some (.inl p2), some (.inl 1)]) (st' := []) (w' := (SH, (u2 dt126 79 12 0))) rfl rfl (s_pf rfl rfl rfl rfl ⟨by decide, by decide⟩) ?_
                have r241 : (-2147483648) ≤ dt126 79 17 ∧ dt126 79 17 ≤ 2147483647 := InvC_get hI127 79 17 rfl rfl
                refine go_toq PM174 (k := 3) (pc' := 133) (L' := [some (.inr (.inr (some 79))), some (.inl p1), some (.inl p2), some (.inl 1)]) (st' := [.inl (dt126 79 17), .inr (.inr (some 79))]) (w' := (SH, (u2 dt126 79 12 0))) rfl ?_
                have hI242 : InvC (u2 (u2 dt126 79 12 0) 79 19 (dt126 79 17)) := InvC_u2 hI229 (lo := -2147483648) (hi := 2147483647) rfl rfl rfl (by first | exact bnd1 r241 (by decide) | fail) (by first | exact bnd2 r241 (by decide) | fail)
                have hF243 : Fr [79, 80, 82, 83, 84] dt (u2 (u2 dt126 79 12 0) 79 19 (dt126 79 17)) := Fr_u2 hF230 (by decide)
                have w244 : (u2 (u2 dt126 79 12 0) 79 19 (dt126 79 17)) 79 2 = dt126 79 2 := w231
                have w245 : (u2 (u2 dt126 79 12 0) 79 19 (dt126 79 17)) 79 9 = dt126 79 9 := w232
                have w246 : (u2 (u2 dt126 79 12 0) 79 19 (dt126 79 17)) 79 10 = dt126 79 10 := w233
                have w247 : (u2 (u2 dt126 79 12 0) 79 19 (dt126 79 17)) 79 11 = dt126 79 11 := w234
                have w248 : (u2 (u2 dt126 79 12 0) 79 19 (dt126 79 17)) 79 12 = 0 := w235
                have w249 : (u2 (u2 dt126 79 12 0) 79 19 (dt126 79 17)) 79 13 = dt126 79 13 := w236
                have w250 : (u2 (u2 dt126 79 12 0) 79 19 (dt126 79 17)) 79 14 = dt126 79 14 := w237
                have w251 : (u2 (u2 dt126 79 12 0) 79 19 (dt126 79 17)) 79 15 = dt126 79 15 := w238
                clear w231 w232 w233 w234 w235 w236 w237 w238
                have E84252 : (u2 (u2 dt126 79 12 0) 79 19 (dt126 79 17)) 84 = dt126 84 := (funext fun _ => rfl).trans E84239
                have E80253 : (u2 (u2 dt126 79 12 0) 79 19 (dt126 79 17)) 80 = dt 80 := (funext fun _ => u2_ne (fun z => absurd z.1 (by decide))).trans E80240
                refine go_smpq PM174 (L' := [some (.inr (.inr (some 79))), some (.inl p1), some (.inl p2), some (.inl 1)]) (st' := []) (w' := (SH, (u2 (u2 dt126 79 12 0) 79 19 (dt126 79 17)))) rfl rfl (s_pf rfl rfl rfl rfl (by first | exact bnd r241 (by decide) (by decide) | exact ⟨by fail, by fail⟩)) ?_
                refine go_toq PM174 (k := 5) (pc' := 149) (L' := [some (.inr (.inr (some 79))), some (.inl p1), some (.inl p2), some (.inl 1)]) (st' := [.inl (-1), .inr (.inr (some 79))]) (w' := (SH, (u2 (u2 dt126 79 12 0) 79 19 (dt126 79 17)))) rfl ?_
                have hI254 : InvC (u2 (u2 (u2 dt126 79 12 0) 79 19 (dt126 79 17)) 79 21 (-1)) := InvC_u2 hI242 (lo := -2147483648) (hi := 2147483647) rfl rfl rfl (by decide) (by decide)
                have hF255 : Fr [79, 80, 82, 83, 84] dt (u2 (u2 (u2 dt126 79 12 0) 79 19 (dt126 79 17)) 79 21 (-1)) := Fr_u2 hF243 (by decide)
                have w256 : (u2 (u2 (u2 dt126 79 12 0) 79 19 (dt126 79 17)) 79 21 (-1)) 79 2 = dt126 79 2 := w244
                have w257 : (u2 (u2 (u2 dt126 79 12 0) 79 19 (dt126 79 17)) 79 21 (-1)) 79 9 = dt126 79 9 := w245
                have w258 : (u2 (u2 (u2 dt126 79 12 0) 79 19 (dt126 79 17)) 79 21 (-1)) 79 10 = dt126 79 10 := w246
                have w259 : (u2 (u2 (u2 dt126 79 12 0) 79 19 (dt126 79 17)) 79 21 (-1)) 79 11 = dt126 79 11 := w247
                have w260 : (u2 (u2 (u2 dt126 79 12 0) 79 19 (dt126 79 17)) 79 21 (-1)) 79 12 = 0 := w248
                have w261 : (u2 (u2 (u2 dt126 79 12 0) 79 19 (dt126 79 17)) 79 21 (-1)) 79 13 = dt126 79 13 := w249
                have w262 : (u2 (u2 (u2 dt126 79 12 0) 79 19 (dt126 79 17)) 79 21 (-1)) 79 14 = dt126 79 14 := w250
                have w263 : (u2 (u2 (u2 dt126 79 12 0) 79 19 (dt126 79 17)) 79 21 (-1)) 79 15 = dt126 79 15 := w251
                clear w244 w245 w246 w247 w248 w249 w250 w251
                have E84264 : (u2 (u2 (u2 dt126 79 12 0) 79 19 (dt126 79 17)) 79 21 (-1)) 84 = dt126 84 := (funext fun _ => rfl).trans E84252
                have E80265 : (u2 (u2 (u2 dt126 79 12 0) 79 19 (dt126 79 17)) 79 21 (-1)) 80 = dt 80 := (funext fun _ => u2_ne (fun z => absurd z.1 (by decide))).trans E80253
                refine go_smpq PM174 (L' := [some (.inr (.inr (some 79))), some (.inl p1), some (.inl p2), some (.inl 1)]) (st' := []) (w' := (SH, (u2 (u2 (u2 dt126 79 12 0) 79 19 (dt126 79 17)) 79 21 (-1)))) rfl rfl (s_pf rfl rfl rfl rfl ⟨by decide, by decide⟩) ?_
                refine go_toq PM174 (k := 4) (pc' := 160) (L' := [some (.inr (.inr (some 79))), some (.inl p1), some (.inl p2), some (.inl 1)]) (st' := [.inl p2, .inr (.inr (some 79))]) (w' := (SH, (u2 (u2 (u2 dt126 79 12 0) 79 19 (dt126 79 17)) 79 21 (-1)))) rfl ?_
                refine go_callq PM174 PM175 (Q' := _) rfl rfl rfl rfl (sp_X6_keeps_q1 L xs sio (d + 37) (u2 (u2 (u2 dt126 79 12 0) 79 19 (dt126 79 17)) 79 21 (-1)) hI254 hM_dt126  p2 (by first | exact h_p2 | exact bnd h_p2 (by decide) (by decide) | exact ⟨by omega, by omega⟩) (by first | exact True.intro | with_reducible assumption | exact unhid (by with_reducible assumption) | rfl | (have z_ := unhid c17; omega) | trivial | exact hI4 (by fail) (by fail) | exact hI5 (by fail) (by fail)) (by first | exact True.intro | with_reducible assumption | exact unhid (by with_reducible assumption) | rfl | (have z_ := unhid u6_; omega) | trivial | exact hI4 (by fail) (by fail) | exact hI5 (by fail) (by fail)) (by first | exact True.intro | with_reducible assumption | exact unhid (by with_reducible assumption) | rfl | omega | trivial | exact hI4 (by fail) (by fail) | exact hI5 (by fail) (by fail)) (by first | exact True.intro | with_reducible assumption | exact unhid (by with_reducible assumption) | rfl | fail | trivial | exact hI4 (by omega) (by fail) | exact hI5 (by omega) (by (have z_ := unhid c17; omega)))) ?_
                rintro _ _ ⟨dt267, rfl, hI268, hF269, h266⟩
                refine ⟨rfl, ?_⟩
                have hF270 : Fr [79, 80, 82, 83, 84] dt dt267 := Fr_tr hF255 hF269 (by decide)
                have w271 : dt267 79 2 = dt126 79 2 := (hF269 79 (by decide) 2).trans w256
                have w272 : dt267 79 9 = dt126 79 9 := (hF269 79 (by decide) 9).trans w257
                have w273 : dt267 79 10 = dt126 79 10 := (hF269 79 (by decide) 10).trans w258
                have w274 : dt267 79 11 = dt126 79 11 := (hF269 79 (by decide) 11).trans w259
                have w275 : dt267 79 12 = 0 := (hF269 79 (by decide) 12).trans w260
                have w276 : dt267 79 13 = dt126 79 13 := (hF269 79 (by decide) 13).trans w261
                have w277 : dt267 79 14 = dt126 79 14 := (hF269 79 (by decide) 14).trans w262
                have w278 : dt267 79 15 = dt126 79 15 := (hF269 79 (by decide) 15).trans w263
                clear w256 w257 w258 w259 w260 w261 w262 w263
                have E84279 : dt267 84 = dt126 84 := (funext (hF269 84 (by decide))).trans E84264
                rcases h266 with ⟨rfl, h266⟩
                have hM280 : MW (dt267 80) := h266.1
                obtain ⟨h266_0, h266_1, h266_2, h266_3, h266_4, h266_5, h266_6, h266_7⟩ := h266
                have r281 : 0 ≤ dt267 79 10 ∧ dt267 79 10 ≤ 24 := InvC_get hI268 79 10 rfl rfl
                refine go_retq PM174 (k := 2) (r := some (.inl (dt267 79 10))) (w1 := (SH, dt267)) rfl ?_
                exact ⟨dt267, rfl, hI268, hF270, ⟨_, rfl, (by first | exact bnd r281 (by decide) (by decide) | exact ⟨by fail, by fail⟩), ⟨by first | exact True.intro | with_reducible assumption | exact unhid (by with_reducible assumption) | rfl | fail | trivial, by first | exact True.intro | with_reducible assumption | exact unhid (by with_reducible assumption) | rfl | omega | trivial, by first | assumption | exact hM, by first | rfl | exact congrFun E80265 0 | exact Eq.trans (by assumption) (congrFun E80265 0), by first | rfl | exact congrFun E80265 1 | exact Eq.trans (by assumption) (congrFun E80265 1), by first | rfl | exact congrFun E80265 2 | exact Eq.trans (by assumption) (congrFun E80265 2), by first | rfl | exact congrFun E80265 3 | exact Eq.trans (by assumption) (congrFun E80265 3), by first | rfl | exact congrFun E80265 4 | exact Eq.trans (by assumption) (congrFun E80265 4), by first | rfl | exact congrFun E80265 5 | exact Eq.trans (by assumption) (congrFun E80265 5), by first | exact fun _ _ => rfl | exact fun j hj => (h266_7 j hj).trans (congrFun E80265 j) | exact fun j hj => congrFun E80265 j | exact fun j hj => Eq.trans (h266_7 j hj) (congrFun (by assumption) j)⟩⟩⟩
              · skip
                replace c228 := hid c228
                refine go_ifq PM174 (k := 1) (p1 := 97) (p2 := 90) (L' := [some (.inr (.inr (some 79))), some (.inl p1), some (.inl p2), some (.inl 1)]) (st' := []) (w' := (SH, dt126)) rfl (z_ne (a := p1) (by first | exact bnd h_p1 (by decide) (by decide) | exact ⟨by fail, by fail⟩)) (fun c282 => ?_) (fun c282 => ?_)
                · skip
                  replace c282 := hid c282
                  refine go_toq PM174 (k := 1) (pc' := 98) (L' := [some (.inr (.inr (some 79))), some (.inl p1), some (.inl p2), some (.inl 1)]) (st' := [.inr (.inr (some 79))]) (w' := (SH, dt126)) rfl ?_
                  have u8_ := hid (And.intro (unhid c17) (And.intro (unhid i130) (And.intro (unhid i132) (And.intro (unhid i133) (And.intro (unhid hm1) (And.intro (unhid c140) (And.intro (unhid c228) (unhid c282))))))))
                  refine go_callq PM174 PM173 (Q' := _) rfl rfl rfl rfl (sp_X6_aLine L xs sio (d + 0) dt126 hI127   (by first | exact True.intro | with_reducible assumption | exact unhid (by with_reducible assumption) | rfl | (have z_ := unhid i130; omega) | trivial | exact hI4 (by fail) (by fail) | exact hI5 (by fail) (by fail)) (by first | exact True.intro | with_reducible assumption | exact unhid (by with_reducible assumption) | rfl | (have z_ := unhid i132; omega) | trivial | exact hI4 (by fail) (by fail) | exact hI5 (by fail) (by fail)) (by first | exact True.intro | with_reducible assumption | exact unhid (by with_reducible assumption) | rfl | (have z_ := unhid u8_; omega) | trivial | exact hI4 (by fail) (by fail) | exact hI5 (by fail) (by fail))) ?_
                  rintro _ _ ⟨dt284, rfl, hI285, hF286, h283⟩
                  refine ⟨rfl, ?_⟩
                  have hF287 : Fr [79, 80, 82, 83, 84] dt dt284 := Fr_tr hF128 hF286 (by decide)
                  have hM288 : MW (dt284 80) := MW_fr hM_dt126 hF286 (by decide)
                  have E80289 : dt284 80 = dt 80 := (funext (hF286 80 (by decide))).trans hE80
                  rcases h283 with ⟨rfl, h283⟩ | ⟨rfl, h283⟩
                  · skip
                    obtain ⟨h283_0, h283_1, h283_2⟩ := h283
                    have w290 : dt284 79 2 = dt126 79 2 := h283_0
                    have w291 : dt284 79 9 = dt126 79 9 := h283_1
                    have w292 : dt284 79 12 = dt126 79 12 := h283_2
                    clear h283_0 h283_1 h283_2
                    have r293 : 0 ≤ dt284 79 10 ∧ dt284 79 10 ≤ 24 := InvC_get hI285 79 10 rfl rfl
                    refine go_toq PM174 (k := 8) (pc' := 117) (L' := [some (.inr (.inr (some 79))), some (.inl p1), some (.inl p2), some (.inl 0)]) (st' := [.inl ((dt284 79 10) + 0), .inr (.inr (some 79))]) (w' := (SH, dt284)) rfl ?_
                    have hI294 : InvC (u2 dt284 79 10 ((dt284 79 10) + 0)) := InvC_u2 hI285 (lo := 0) (hi := 24) rfl rfl rfl (by omega) (by omega)
                    have hF295 : Fr [79, 80, 82, 83, 84] dt (u2 dt284 79 10 ((dt284 79 10) + 0)) := Fr_u2 hF287 (by decide)
                    have w296 : (u2 dt284 79 10 ((dt284 79 10) + 0)) 79 2 = dt126 79 2 := w290
                    have w297 : (u2 dt284 79 10 ((dt284 79 10) + 0)) 79 9 = dt126 79 9 := w291
                    have w298 : (u2 dt284 79 10 ((dt284 79 10) + 0)) 79 10 = (dt284 79 10) + 0 := rfl
                    have w299 : (u2 dt284 79 10 ((dt284 79 10) + 0)) 79 11 = dt284 79 11 := rfl
                    have w300 : (u2 dt284 79 10 ((dt284 79 10) + 0)) 79 12 = dt126 79 12 := w292
                    have w301 : (u2 dt284 79 10 ((dt284 79 10) + 0)) 79 13 = dt284 79 13 := rfl
                    have w302 : (u2 dt284 79 10 ((dt284 79 10) + 0)) 79 14 = dt284 79 14 := rfl
                    have w303 : (u2 dt284 79 10 ((dt284 79 10) + 0)) 79 15 = dt284 79 15 := rfl
                    have E84304 : (u2 dt284 79 10 ((dt284 79 10) + 0)) 84 = dt284 84 := funext fun _ => rfl
                    have E80305 : (u2 dt284 79 10 ((dt284 79 10) + 0)) 80 = dt 80 := (funext fun _ => u2_ne (fun z => absurd z.1 (by decide))).trans E80289
                    refine go_smpq PM174 (L' := [some (.inr (.inr (some 79))), some (.inl p1), some (.inl p2), some (.inl 0)]) (st' := []) (w' := (SH, (u2 dt284 79 10 ((dt284 79 10) + 0)))) rfl rfl (s_pf rfl rfl rfl rfl (by first | exact bndp r293 (by decide) (by decide) | exact ⟨by fail, by fail⟩)) ?_
                    refine go_toq PM174 (k := 1) (pc' := 75) (L' := [some (.inr (.inr (some 79))), some (.inl p1), some (.inl p2), some (.inl 0)]) (st' := []) (w' := (SH, (u2 dt284 79 10 ((dt284 79 10) + 0)))) rfl ?_
                    exact GO.le (ih_loop139 0 (u2 dt284 79 10 ((dt284 79 10) + 0)) hI294 hF295 hM288 ⟨by decide, by decide⟩ (by omega) (by first | with_reducible assumption | exact unhid (by with_reducible assumption) | fail | exact (InvC_get (by assumption) 79 15 rfl rfl).2) (by omega) (by omega) (by intro _ hz; first | omega | exact ARW_0 (by fail) | exact ARW_s (hI4 (by fail) hz) (by fail) (by assumption) (by assumption) (by fail)) (by intro _ hz; first | omega | exact LRW_0 (by fail) | exact LRW_s (hI5 (by fail) hz) (by fail) (by assumption) (by assumption) (by assumption) (by fail) (by fail)) (by omega) (by omega) (by exact E80305) (by omega)) ⟨.inl rfl, .inl rfl, .inl rfl, .inl rfl, trivial⟩
                  · skip
                    obtain ⟨h283_0, h283_1, h283_2, h283_3, h283_4, h283_5, h283_6, h283_7, h283_8, h283_9, h283_10, h283_11, h283_12⟩ := h283
                    have w306 : dt284 79 2 = dt126 79 2 := h283_9
                    have w307 : dt284 79 9 = dt126 79 9 := h283_10
                    have w308 : dt284 79 10 = dt126 79 10 := h283_11
                    have w309 : dt284 79 12 = dt126 79 12 := h283_12
                    clear h283_9 h283_10 h283_11 h283_12
                    have r310 : 0 ≤ dt284 79 10 ∧ dt284 79 10 ≤ 24 := InvC_get hI285 79 10 rfl rfl
                    refine go_toq PM174 (k := 9) (pc' := 117) (L' := [some (.inr (.inr (some 79))), some (.inl p1), some (.inl p2), some (.inl 1)]) (st' := [.inl ((dt284 79 10) + 1), .inr (.inr (some 79))]) (w' := (SH, dt284)) rfl ?_
                    have hI311 : InvC (u2 dt284 79 10 ((dt284 79 10) + 1)) := InvC_u2 hI285 (lo := 0) (hi := 24) rfl rfl rfl (by omega) (by omega)
                    have hF312 : Fr [79, 80, 82, 83, 84] dt (u2 dt284 79 10 ((dt284 79 10) + 1)) := Fr_u2 hF287 (by decide)
                    have w313 : (u2 dt284 79 10 ((dt284 79 10) + 1)) 79 2 = dt126 79 2 := w306
                    have w314 : (u2 dt284 79 10 ((dt284 79 10) + 1)) 79 9 = dt126 79 9 := w307
                    have w315 : (u2 dt284 79 10 ((dt284 79 10) + 1)) 79 10 = (dt284 79 10) + 1 := rfl
                    have w316 : (u2 dt284 79 10 ((dt284 79 10) + 1)) 79 11 = dt284 79 11 := rfl
                    have w317 : (u2 dt284 79 10 ((dt284 79 10) + 1)) 79 12 = dt126 79 12 := w309
                    have w318 : (u2 dt284 79 10 ((dt284 79 10) + 1)) 79 13 = dt284 79 13 := rfl
                    have w319 : (u2 dt284 79 10 ((dt284 79 10) + 1)) 79 14 = dt284 79 14 := rfl
                    have w320 : (u2 dt284 79 10 ((dt284 79 10) + 1)) 79 15 = dt284 79 15 := rfl
                    have E84321 : (u2 dt284 79 10 ((dt284 79 10) + 1)) 84 = dt284 84 := funext fun _ => rfl
                    have E80322 : (u2 dt284 79 10 ((dt284 79 10) + 1)) 80 = dt 80 := (funext fun _ => u2_ne (fun z => absurd z.1 (by decide))).trans E80289
                    refine go_smpq PM174 (L' := [some (.inr (.inr (some 79))), some (.inl p1), some (.inl p2), some (.inl 1)]) (st' := []) (w' := (SH, (u2 dt284 79 10 ((dt284 79 10) + 1)))) rfl rfl (s_pf rfl rfl rfl rfl (by first | exact bndp r310 (by decide) (by decide) | exact ⟨by fail, by fail⟩)) ?_
                    refine go_toq PM174 (k := 1) (pc' := 75) (L' := [some (.inr (.inr (some 79))), some (.inl p1), some (.inl p2), some (.inl 1)]) (st' := []) (w' := (SH, (u2 dt284 79 10 ((dt284 79 10) + 1)))) rfl ?_
                    exact GO.le (ih_loop139 1 (u2 dt284 79 10 ((dt284 79 10) + 1)) hI311 hF312 hM288 ⟨by decide, by decide⟩ (by omega) (by first | with_reducible assumption | exact unhid (by with_reducible assumption) | omega | exact (InvC_get (by assumption) 79 15 rfl rfl).2) (by (have z_ := unhid i132; omega)) (by omega) (by intro _ hz; first | (have z_ := unhid c282; omega) | exact ARW_0 (by fail) | exact ARW_s (hI4 (by fail) hz) (by fail) (by assumption) (by assumption) (by fail)) (by intro _ hz; first | fail | exact LRW_0 (by fail) | exact LRW_s (hI5 (by omega) hz) (by omega) (by assumption) (by assumption) (by assumption) (by omega) (by omega)) (by omega) (by omega) (by exact E80322) (by omega)) ⟨.inl rfl, .inl rfl, .inl rfl, .inl rfl, trivial⟩
                · exfalso; (have z_ := unhid c17; omega)
        exact GO.le (loop139 _ 1 dt68 hI69 hF71 hM72 ⟨by decide, by decide⟩ (by omega) (by first | with_reducible assumption | exact unhid (by with_reducible assumption) | omega | exact (InvC_get (by assumption) 79 15 rfl rfl).2) (by omega) (by omega) (by intro _ hz; first | (have z_ := unhid c17; omega) | exact ARW_0 (by fail) | exact ARW_s (hI4 (by fail) hz) (by fail) (by assumption) (by assumption) (by fail)) (by intro _ hz; first | fail | exact LRW_0 (by omega) | exact LRW_s (hI5 (by fail) hz) (by fail) (by assumption) (by assumption) (by assumption) (by fail) (by fail)) (by omega) (by omega) (by exact E8073) (Nat.lt_succ_self _)) ⟨.inl rfl, .inl rfl, .inl rfl, .inl rfl, trivial⟩
      · skip
        refine go_toq PM174 (k := 3) (pc' := 34) (L' := [some (.inr (.inr (some 79))), some (.inl p1), some (.inl p2), none]) (st' := [.inl 0, .inr (.inr (some 79))]) (w' := (SH, (u2 dt 79 17 0))) rfl ?_
        have hI323 : InvC (u2 (u2 dt 79 17 0) 79 12 0) := InvC_u2 hI4 (lo := 0) (hi := 500) rfl rfl rfl (by decide) (by decide)
        have hF324 : Fr [79, 80, 82, 83, 84] dt (u2 (u2 dt 79 17 0) 79 12 0) := Fr_u2 hF5 (by decide)
        have w325 : (u2 (u2 dt 79 17 0) 79 12 0) 79 2 = dt 79 2 := w6
        have w326 : (u2 (u2 dt 79 17 0) 79 12 0) 79 9 = dt 79 9 := w7
        have w327 : (u2 (u2 dt 79 17 0) 79 12 0) 79 10 = dt 79 10 := w8
        have w328 : (u2 (u2 dt 79 17 0) 79 12 0) 79 11 = dt 79 11 := w9
        have w329 : (u2 (u2 dt 79 17 0) 79 12 0) 79 12 = 0 := rfl
        have w330 : (u2 (u2 dt 79 17 0) 79 12 0) 79 13 = dt 79 13 := w11
        have w331 : (u2 (u2 dt 79 17 0) 79 12 0) 79 14 = dt 79 14 := w12
        have w332 : (u2 (u2 dt 79 17 0) 79 12 0) 79 15 = dt 79 15 := w13
        clear w6 w7 w8 w9 w10 w11 w12 w13
        have E84333 : (u2 (u2 dt 79 17 0) 79 12 0) 84 = dt 84 := (funext fun _ => rfl).trans E8414
        have E80334 : (u2 (u2 dt 79 17 0) 79 12 0) 80 = dt 80 := (funext fun _ => u2_ne (fun z => absurd z.1 (by decide))).trans E8015
        refine go_smpq PM174 (L' := [some (.inr (.inr (some 79))), some (.inl p1), some (.inl p2), none]) (st' := []) (w' := (SH, (u2 (u2 dt 79 17 0) 79 12 0))) rfl rfl (s_pf rfl rfl rfl rfl ⟨by decide, by decide⟩) ?_
        refine go_toq PM174 (k := 2) (pc' := 39) (L' := [some (.inr (.inr (some 79))), some (.inl p1), some (.inl p2), none]) (st' := [.inl 0, .inr (.inr (some 79))]) (w' := (SH, (u2 (u2 dt 79 17 0) 79 12 0))) rfl ?_
        have hI335 : InvC (u2 (u2 (u2 dt 79 17 0) 79 12 0) 79 19 0) := InvC_u2 hI323 (lo := -2147483648) (hi := 2147483647) rfl rfl rfl (by decide) (by decide)
        have hF336 : Fr [79, 80, 82, 83, 84] dt (u2 (u2 (u2 dt 79 17 0) 79 12 0) 79 19 0) := Fr_u2 hF324 (by decide)
        have w337 : (u2 (u2 (u2 dt 79 17 0) 79 12 0) 79 19 0) 79 2 = dt 79 2 := w325
        have w338 : (u2 (u2 (u2 dt 79 17 0) 79 12 0) 79 19 0) 79 9 = dt 79 9 := w326
        have w339 : (u2 (u2 (u2 dt 79 17 0) 79 12 0) 79 19 0) 79 10 = dt 79 10 := w327
        have w340 : (u2 (u2 (u2 dt 79 17 0) 79 12 0) 79 19 0) 79 11 = dt 79 11 := w328
        have w341 : (u2 (u2 (u2 dt 79 17 0) 79 12 0) 79 19 0) 79 12 = 0 := w329
        have w342 : (u2 (u2 (u2 dt 79 17 0) 79 12 0) 79 19 0) 79 13 = dt 79 13 := w330
        have w343 : (u2 (u2 (u2 dt 79 17 0) 79 12 0) 79 19 0) 79 14 = dt 79 14 := w331
        have w344 : (u2 (u2 (u2 dt 79 17 0) 79 12 0) 79 19 0) 79 15 = dt 79 15 := w332
        clear w325 w326 w327 w328 w329 w330 w331 w332
        have E84345 : (u2 (u2 (u2 dt 79 17 0) 79 12 0) 79 19 0) 84 = dt 84 := (funext fun _ => rfl).trans E84333
        have E80346 : (u2 (u2 (u2 dt 79 17 0) 79 12 0) 79 19 0) 80 = dt 80 := (funext fun _ => u2_ne (fun z => absurd z.1 (by decide))).trans E80334
        refine go_smpq PM174 (L' := [some (.inr (.inr (some 79))), some (.inl p1), some (.inl p2), none]) (st' := []) (w' := (SH, (u2 (u2 (u2 dt 79 17 0) 79 12 0) 79 19 0))) rfl rfl (s_pf rfl rfl rfl rfl ⟨by decide, by decide⟩) ?_
        refine go_toq PM174 (k := 2) (pc' := 44) (L' := [some (.inr (.inr (some 79))), some (.inl p1), some (.inl p2), none]) (st' := [.inl (-1), .inr (.inr (some 79))]) (w' := (SH, (u2 (u2 (u2 dt 79 17 0) 79 12 0) 79 19 0))) rfl ?_
        have hI347 : InvC (u2 (u2 (u2 (u2 dt 79 17 0) 79 12 0) 79 19 0) 79 21 (-1)) := InvC_u2 hI335 (lo := -2147483648) (hi := 2147483647) rfl rfl rfl (by decide) (by decide)
        have hF348 : Fr [79, 80, 82, 83, 84] dt (u2 (u2 (u2 (u2 dt 79 17 0) 79 12 0) 79 19 0) 79 21 (-1)) := Fr_u2 hF336 (by decide)
        have w349 : (u2 (u2 (u2 (u2 dt 79 17 0) 79 12 0) 79 19 0) 79 21 (-1)) 79 2 = dt 79 2 := w337
        have w350 : (u2 (u2 (u2 (u2 dt 79 17 0) 79 12 0) 79 19 0) 79 21 (-1)) 79 9 = dt 79 9 := w338
        have w351 : (u2 (u2 (u2 (u2 dt 79 17 0) 79 12 0) 79 19 0) 79 21 (-1)) 79 10 = dt 79 10 := w339
        have w352 : (u2 (u2 (u2 (u2 dt 79 17 0) 79 12 0) 79 19 0) 79 21 (-1)) 79 11 = dt 79 11 := w340
        have w353 : (u2 (u2 (u2 (u2 dt 79 17 0) 79 12 0) 79 19 0) 79 21 (-1)) 79 12 = 0 := w341
        have w354 : (u2 (u2 (u2 (u2 dt 79 17 0) 79 12 0) 79 19 0) 79 21 (-1)) 79 13 = dt 79 13 := w342
        have w355 : (u2 (u2 (u2 (u2 dt 79 17 0) 79 12 0) 79 19 0) 79 21 (-1)) 79 14 = dt 79 14 := w343
        have w356 : (u2 (u2 (u2 (u2 dt 79 17 0) 79 12 0) 79 19 0) 79 21 (-1)) 79 15 = dt 79 15 := w344
        clear w337 w338 w339 w340 w341 w342 w343 w344
        have E84357 : (u2 (u2 (u2 (u2 dt 79 17 0) 79 12 0) 79 19 0) 79 21 (-1)) 84 = dt 84 := (funext fun _ => rfl).trans E84345
        have E80358 : (u2 (u2 (u2 (u2 dt 79 17 0) 79 12 0) 79 19 0) 79 21 (-1)) 80 = dt 80 := (funext fun _ => u2_ne (fun z => absurd z.1 (by decide))).trans E80346
        refine go_smpq PM174 (L' := [some (.inr (.inr (some 79))), some (.inl p1), some (.inl p2), none]) (st' := []) (w' := (SH, (u2 (u2 (u2 (u2 dt 79 17 0) 79 12 0) 79 19 0) 79 21 (-1)))) rfl rfl (s_pf rfl rfl rfl rfl ⟨by decide, by decide⟩) ?_
        refine go_retq PM174 (k := 1) (r := some (.inl (-1))) (w1 := (SH, (u2 (u2 (u2 (u2 dt 79 17 0) 79 12 0) 79 19 0) 79 21 (-1)))) rfl ?_
        exact ⟨(u2 (u2 (u2 (u2 dt 79 17 0) 79 12 0) 79 19 0) 79 21 (-1)), rfl, hI347, hF348, ⟨_, rfl, ⟨by decide, by decide⟩, ⟨by first | exact True.intro | with_reducible assumption | exact unhid (by with_reducible assumption) | rfl | fail | trivial, by first | exact True.intro | with_reducible assumption | exact unhid (by with_reducible assumption) | rfl | fail | trivial, by first | assumption | exact hM, by first | rfl | exact congrFun E80358 0 | exact Eq.trans (by assumption) (congrFun E80358 0), by first | rfl | exact congrFun E80358 1 | exact Eq.trans (by assumption) (congrFun E80358 1), by first | rfl | exact congrFun E80358 2 | exact Eq.trans (by assumption) (congrFun E80358 2), by first | rfl | exact congrFun E80358 3 | exact Eq.trans (by assumption) (congrFun E80358 3), by first | rfl | exact congrFun E80358 4 | exact Eq.trans (by assumption) (congrFun E80358 4), by first | rfl | exact congrFun E80358 5 | exact Eq.trans (by assumption) (congrFun E80358 5), by first | exact fun _ _ => rfl | exact fun j hj => (hI j hj).trans (congrFun E80358 j) | exact fun j hj => congrFun E80358 j | exact fun j hj => Eq.trans (hI j hj) (congrFun (by assumption) j)⟩⟩⟩
    · skip
      refine go_toq PM174 (k := 2) (pc' := 26) (L' := [some (.inr (.inr (some 79))), some (.inl p1), some (.inl p2), none]) (st' := [.inl 7, .inl 0, .inl p2]) (w' := (SH, (u2 dt 79 17 0))) rfl ?_
      refine go_callq PM174 PM146 (Q' := _) rfl rfl rfl rfl (sp_X6_isIn L xs sio (d + 37) (u2 dt 79 17 0) hI4  p2 (by first | exact h_p2 | exact bnd h_p2 (by decide) (by decide) | exact ⟨by fail, by fail⟩) 0 ⟨by decide, by decide⟩ 7 ⟨by decide, by decide⟩ ) ?_
      rintro _ _ ⟨rfl, h359⟩
      refine ⟨rfl, ?_⟩
      rcases h359 with ⟨rfl, h359⟩ | ⟨rfl, h359⟩
      · skip
        refine go_toq PM174 (k := 3) (pc' := 51) (L' := [some (.inr (.inr (some 79))), some (.inl p1), some (.inl p2), none]) (st' := [.inl p1, .inr (.inr (some 79))]) (w' := (SH, (u2 dt 79 17 0))) rfl ?_
        have hI360 : InvC (u2 (u2 dt 79 17 0) 79 9 p1) := InvC_u2 hI4 (lo := 0) (hi := 1) rfl rfl rfl (by first | exact bnd1 h_p1 (by decide) | omega) (by first | exact bnd2 h_p1 (by decide) | omega)
        have hF361 : Fr [79, 80, 82, 83, 84] dt (u2 (u2 dt 79 17 0) 79 9 p1) := Fr_u2 hF5 (by decide)
        have w362 : (u2 (u2 dt 79 17 0) 79 9 p1) 79 2 = dt 79 2 := w6
        have w363 : (u2 (u2 dt 79 17 0) 79 9 p1) 79 9 = p1 := rfl
        have w364 : (u2 (u2 dt 79 17 0) 79 9 p1) 79 10 = dt 79 10 := w8
        have w365 : (u2 (u2 dt 79 17 0) 79 9 p1) 79 11 = dt 79 11 := w9
        have w366 : (u2 (u2 dt 79 17 0) 79 9 p1) 79 12 = dt 79 12 := w10
        have w367 : (u2 (u2 dt 79 17 0) 79 9 p1) 79 13 = dt 79 13 := w11
        have w368 : (u2 (u2 dt 79 17 0) 79 9 p1) 79 14 = dt 79 14 := w12
        have w369 : (u2 (u2 dt 79 17 0) 79 9 p1) 79 15 = dt 79 15 := w13
        clear w6 w7 w8 w9 w10 w11 w12 w13
        have E84370 : (u2 (u2 dt 79 17 0) 79 9 p1) 84 = dt 84 := (funext fun _ => rfl).trans E8414
        have E80371 : (u2 (u2 dt 79 17 0) 79 9 p1) 80 = dt 80 := (funext fun _ => u2_ne (fun z => absurd z.1 (by decide))).trans E8015
        refine go_smpq PM174 (L' := [some (.inr (.inr (some 79))), some (.inl p1), some (.inl p2), none]) (st' := []) (w' := (SH, (u2 (u2 dt 79 17 0) 79 9 p1))) rfl rfl (s_pf rfl rfl rfl rfl (by first | exact bnd h_p1 (by decide) (by decide) | exact ⟨by fail, by fail⟩)) ?_
        refine go_toq PM174 (k := 2) (pc' := 56) (L' := [some (.inr (.inr (some 79))), some (.inl p1), some (.inl p2), none]) (st' := [.inl 0, .inr (.inr (some 79))]) (w' := (SH, (u2 (u2 dt 79 17 0) 79 9 p1))) rfl ?_
        have hI372 : InvC (u2 (u2 (u2 dt 79 17 0) 79 9 p1) 79 13 0) := InvC_u2 hI360 (lo := 0) (hi := 501) rfl rfl rfl (by decide) (by decide)
        have hF373 : Fr [79, 80, 82, 83, 84] dt (u2 (u2 (u2 dt 79 17 0) 79 9 p1) 79 13 0) := Fr_u2 hF361 (by decide)
        have w374 : (u2 (u2 (u2 dt 79 17 0) 79 9 p1) 79 13 0) 79 2 = dt 79 2 := w362
        have w375 : (u2 (u2 (u2 dt 79 17 0) 79 9 p1) 79 13 0) 79 9 = p1 := w363
        have w376 : (u2 (u2 (u2 dt 79 17 0) 79 9 p1) 79 13 0) 79 10 = dt 79 10 := w364
        have w377 : (u2 (u2 (u2 dt 79 17 0) 79 9 p1) 79 13 0) 79 11 = dt 79 11 := w365
        have w378 : (u2 (u2 (u2 dt 79 17 0) 79 9 p1) 79 13 0) 79 12 = dt 79 12 := w366
        have w379 : (u2 (u2 (u2 dt 79 17 0) 79 9 p1) 79 13 0) 79 13 = 0 := rfl
        have w380 : (u2 (u2 (u2 dt 79 17 0) 79 9 p1) 79 13 0) 79 14 = dt 79 14 := w368
        have w381 : (u2 (u2 (u2 dt 79 17 0) 79 9 p1) 79 13 0) 79 15 = dt 79 15 := w369
        clear w362 w363 w364 w365 w366 w367 w368 w369
        have E84382 : (u2 (u2 (u2 dt 79 17 0) 79 9 p1) 79 13 0) 84 = dt 84 := (funext fun _ => rfl).trans E84370
        have E80383 : (u2 (u2 (u2 dt 79 17 0) 79 9 p1) 79 13 0) 80 = dt 80 := (funext fun _ => u2_ne (fun z => absurd z.1 (by decide))).trans E80371
        refine go_smpq PM174 (L' := [some (.inr (.inr (some 79))), some (.inl p1), some (.inl p2), none]) (st' := []) (w' := (SH, (u2 (u2 (u2 dt 79 17 0) 79 9 p1) 79 13 0))) rfl rfl (s_pf rfl rfl rfl rfl ⟨by decide, by decide⟩) ?_
        refine go_toq PM174 (k := 2) (pc' := 61) (L' := [some (.inr (.inr (some 79))), some (.inl p1), some (.inl p2), none]) (st' := [.inl 0, .inr (.inr (some 79))]) (w' := (SH, (u2 (u2 (u2 dt 79 17 0) 79 9 p1) 79 13 0))) rfl ?_
        have hI384 : InvC (u2 (u2 (u2 (u2 dt 79 17 0) 79 9 p1) 79 13 0) 79 10 0) := InvC_u2 hI372 (lo := 0) (hi := 24) rfl rfl rfl (by decide) (by decide)
        have hF385 : Fr [79, 80, 82, 83, 84] dt (u2 (u2 (u2 (u2 dt 79 17 0) 79 9 p1) 79 13 0) 79 10 0) := Fr_u2 hF373 (by decide)
        have w386 : (u2 (u2 (u2 (u2 dt 79 17 0) 79 9 p1) 79 13 0) 79 10 0) 79 2 = dt 79 2 := w374
        have w387 : (u2 (u2 (u2 (u2 dt 79 17 0) 79 9 p1) 79 13 0) 79 10 0) 79 9 = p1 := w375
        have w388 : (u2 (u2 (u2 (u2 dt 79 17 0) 79 9 p1) 79 13 0) 79 10 0) 79 10 = 0 := rfl
        have w389 : (u2 (u2 (u2 (u2 dt 79 17 0) 79 9 p1) 79 13 0) 79 10 0) 79 11 = dt 79 11 := w377
        have w390 : (u2 (u2 (u2 (u2 dt 79 17 0) 79 9 p1) 79 13 0) 79 10 0) 79 12 = dt 79 12 := w378
        have w391 : (u2 (u2 (u2 (u2 dt 79 17 0) 79 9 p1) 79 13 0) 79 10 0) 79 13 = 0 := w379
        have w392 : (u2 (u2 (u2 (u2 dt 79 17 0) 79 9 p1) 79 13 0) 79 10 0) 79 14 = dt 79 14 := w380
        have w393 : (u2 (u2 (u2 (u2 dt 79 17 0) 79 9 p1) 79 13 0) 79 10 0) 79 15 = dt 79 15 := w381
        clear w374 w375 w376 w377 w378 w379 w380 w381
        have E84394 : (u2 (u2 (u2 (u2 dt 79 17 0) 79 9 p1) 79 13 0) 79 10 0) 84 = dt 84 := (funext fun _ => rfl).trans E84382
        have E80395 : (u2 (u2 (u2 (u2 dt 79 17 0) 79 9 p1) 79 13 0) 79 10 0) 80 = dt 80 := (funext fun _ => u2_ne (fun z => absurd z.1 (by decide))).trans E80383
        refine go_smpq PM174 (L' := [some (.inr (.inr (some 79))), some (.inl p1), some (.inl p2), none]) (st' := []) (w' := (SH, (u2 (u2 (u2 (u2 dt 79 17 0) 79 9 p1) 79 13 0) 79 10 0))) rfl rfl (s_pf rfl rfl rfl rfl ⟨by decide, by decide⟩) ?_
        refine go_toq PM174 (k := 2) (pc' := 66) (L' := [some (.inr (.inr (some 79))), some (.inl p1), some (.inl p2), none]) (st' := [.inl 0, .inr (.inr (some 79))]) (w' := (SH, (u2 (u2 (u2 (u2 dt 79 17 0) 79 9 p1) 79 13 0) 79 10 0))) rfl ?_
        have hI396 : InvC (u2 (u2 (u2 (u2 (u2 dt 79 17 0) 79 9 p1) 79 13 0) 79 10 0) 79 11 0) := InvC_u2 hI384 (lo := 0) (hi := 510) rfl rfl rfl (by decide) (by decide)
        have hF397 : Fr [79, 80, 82, 83, 84] dt (u2 (u2 (u2 (u2 (u2 dt 79 17 0) 79 9 p1) 79 13 0) 79 10 0) 79 11 0) := Fr_u2 hF385 (by decide)
        have w398 : (u2 (u2 (u2 (u2 (u2 dt 79 17 0) 79 9 p1) 79 13 0) 79 10 0) 79 11 0) 79 2 = dt 79 2 := w386
        have w399 : (u2 (u2 (u2 (u2 (u2 dt 79 17 0) 79 9 p1) 79 13 0) 79 10 0) 79 11 0) 79 9 = p1 := w387
        have w400 : (u2 (u2 (u2 (u2 (u2 dt 79 17 0) 79 9 p1) 79 13 0) 79 10 0) 79 11 0) 79 10 = 0 := w388
        have w401 : (u2 (u2 (u2 (u2 (u2 dt 79 17 0) 79 9 p1) 79 13 0) 79 10 0) 79 11 0) 79 11 = 0 := rfl
        have w402 : (u2 (u2 (u2 (u2 (u2 dt 79 17 0) 79 9 p1) 79 13 0) 79 10 0) 79 11 0) 79 12 = dt 79 12 := w390
        have w403 : (u2 (u2 (u2 (u2 (u2 dt 79 17 0) 79 9 p1) 79 13 0) 79 10 0) 79 11 0) 79 13 = 0 := w391
        have w404 : (u2 (u2 (u2 (u2 (u2 dt 79 17 0) 79 9 p1) 79 13 0) 79 10 0) 79 11 0) 79 14 = dt 79 14 := w392
        have w405 : (u2 (u2 (u2 (u2 (u2 dt 79 17 0) 79 9 p1) 79 13 0) 79 10 0) 79 11 0) 79 15 = dt 79 15 := w393
        clear w386 w387 w388 w389 w390 w391 w392 w393
        have E84406 : (u2 (u2 (u2 (u2 (u2 dt 79 17 0) 79 9 p1) 79 13 0) 79 10 0) 79 11 0) 84 = dt 84 := (funext fun _ => rfl).trans E84394
        have E80407 : (u2 (u2 (u2 (u2 (u2 dt 79 17 0) 79 9 p1) 79 13 0) 79 10 0) 79 11 0) 80 = dt 80 := (funext fun _ => u2_ne (fun z => absurd z.1 (by decide))).trans E80395
        refine go_smpq PM174 (L' := [some (.inr (.inr (some 79))), some (.inl p1), some (.inl p2), none]) (st' := []) (w' := (SH, (u2 (u2 (u2 (u2 (u2 dt 79 17 0) 79 9 p1) 79 13 0) 79 10 0) 79 11 0))) rfl rfl (s_pf rfl rfl rfl rfl ⟨by decide, by decide⟩) ?_
        refine go_toq PM174 (k := 1) (pc' := 70) (L' := [some (.inr (.inr (some 79))), some (.inl p1), some (.inl p2), none]) (st' := [.inr (.inr (some 79))]) (w' := (SH, (u2 (u2 (u2 (u2 (u2 dt 79 17 0) 79 9 p1) 79 13 0) 79 10 0) 79 11 0))) rfl ?_
        refine go_callq PM174 PM159 (Q' := _) rfl rfl rfl rfl (sp_X6_next0 L xs sio (d + 31) (u2 (u2 (u2 (u2 (u2 dt 79 17 0) 79 9 p1) 79 13 0) 79 10 0) 79 11 0) hI396   (by first | exact True.intro | with_reducible assumption | rfl | omega | trivial | exact hI4 (by fail) (by fail) | exact hI5 (by fail) (by fail))) ?_
        rintro _ _ ⟨dt409, rfl, hI410, hF411, h408⟩
        refine ⟨rfl, ?_⟩
        have hF412 : Fr [79, 80, 82, 83, 84] dt dt409 := Fr_tr hF397 hF411 (by decide)
        have hM413 : MW (dt409 80) := MW_fr (d0 := (u2 (u2 (u2 (u2 (u2 dt 79 17 0) 79 9 p1) 79 13 0) 79 10 0) 79 11 0)) hM hF411 (by decide)
        have E80414 : dt409 80 = dt 80 := (funext (hF411 80 (by decide))).trans E80407
        have E84415 : dt409 84 = dt 84 := (funext (hF411 84 (by decide))).trans E84406
        rcases h408 with ⟨rfl, h408⟩
        obtain ⟨h408_0, h408_1, h408_2, h408_3, h408_4, h408_5, h408_6, h408_7, h408_8⟩ := h408
        have w416 : dt409 79 2 = dt 79 2 := h408_3.trans w398
        have w417 : dt409 79 9 = p1 := h408_4.trans w399
        have w418 : dt409 79 10 = 0 := h408_5.trans w400
        have w419 : dt409 79 11 = 0 := h408_6.trans w401
        have w420 : dt409 79 12 = dt 79 12 := h408_7.trans w402
        clear h408_3 w398 h408_4 w399 h408_5 w400 h408_6 w401 h408_7 w402
        refine go_toq PM174 (k := 2) (pc' := 75) (L' := [some (.inr (.inr (some 79))), some (.inl p1), some (.inl p2), some (.inl 1)]) (st' := []) (w' := (SH, dt409)) rfl ?_
        have loop522 : ∀ (k_ : Nat) (l75_3 : Int) (dt509 : Nat → Nat → Int) (hI510 : InvC dt509) (hF511 : Fr [79, 80, 82, 83, 84] dt dt509) (hM_dt509 : MW (dt509 80)) (i512 : 0 ≤ l75_3 ∧ l75_3 ≤ 1) (i513 : l75_3 = 1 → (¬ dt509 79 14 = 0 → dt509 79 15 + 1 ≤ dt509 79 13) ∧ dt509 79 13 ≤ 500) (i514 : dt509 79 15 ≤ 500) (i515 : l75_3 = 1 → dt509 79 11 ≤ dt509 79 15) (i516 : l75_3 = 1 → p1 = 1 → dt509 79 10 ≤ 16) (i517 : l75_3 = 1 → p1 = 0 → ARW (dt509 82) (dt509 79 10)) (i518 : l75_3 = 1 → p1 = 1 → LRW (dt509 83) (dt509 84) (dt509 79 10) (dt509 79 11)) (i519 : dt509 79 2 = dt 79 2) (i520 : dt509 79 9 = p1) (i521 : dt509 80 = dt 80), (l75_3 * (502 - dt509 79 15)).toNat < k_ → GO (am_XX L xs sio) (d + 38) 174 75 [some (.inr (.inr (some 79))), some (.inl p1), some (.inl p2), some (.inl l75_3)] [] (SH, dt509) (fun r w2 => ∃ dt2 : Nat → Nat → Int, w2 = (SH, dt2) ∧ InvC dt2 ∧ Fr [79, 80, 82, 83, 84] dt dt2 ∧ ((∃ v : Int, r = some (.inl v) ∧ ((-1) ≤ v ∧ v ≤ 24) ∧ (dt2 79 12 = 0) ∧ (dt2 79 2 = dt 79 2) ∧ (MW (dt2 80)) ∧ (dt2 80 0 = dt 80 0) ∧ (dt2 80 1 = dt 80 1) ∧ (dt2 80 2 = dt 80 2) ∧ (dt2 80 3 = dt 80 3) ∧ (dt2 80 4 = dt 80 4) ∧ (dt2 80 5 = dt 80 5) ∧ (∀ j : Nat, (j = 1 ∨ 5320 ≤ j) → dt2 80 j = dt 80 j)))) := by
          intro k_
          induction k_ with
          | zero => intro l75_3 dt509 hI510 hF511 hM_dt509 i512 i513 i514 i515 i516 i517 i518 i519 i520 i521 hm; exact absurd hm (Nat.not_lt_zero _)
          | succ k_ ih_loop522 =>
            intro l75_3 dt509 hI510 hF511 hM_dt509 i512 i513 i514 i515 i516 i517 i518 i519 i520 i521 hm
            replace i513 := hid i513
            replace i515 := hid i515
            replace i516 := hid i516
            replace i517 := hid i517
            replace i518 := hid i518
            have q10 : 0 ≤ dt509 79 10 ∧ dt509 79 10 ≤ 24 := InvC_get (by assumption) 79 10 rfl rfl
            have q11 : 0 ≤ dt509 79 11 ∧ dt509 79 11 ≤ 510 := InvC_get (by assumption) 79 11 rfl rfl
            have hE80 := i521
            have hI4 := i517
            have hI5 := i518
            have hm1 : l75_3 = 1 → (l75_3 * (502 - dt509 79 15)).toNat = (502 - dt509 79 15).toNat := fun e => by rw [e, Int.one_mul]
            replace hm1 := hid hm1
            refine go_ifq PM174 (k := 1) (p1 := 123) (p2 := 79) (L' := [some (.inr (.inr (some 79))), some (.inl p1), some (.inl p2), some (.inl l75_3)]) (st' := []) (w' := (SH, dt509)) rfl (z_eq (a := l75_3) (by first | exact bnd i512 (by decide) (by decide) | exact ⟨by fail, by fail⟩)) (fun c523 => ?_) (fun c523 => ?_)
            · skip
              refine go_toq PM174 (k := 2) (pc' := 125) (L' := [some (.inr (.inr (some 79))), some (.inl p1), some (.inl p2), some (.inl l75_3)]) (st' := [.inl 0, .inr (.inr (some 79))]) (w' := (SH, dt509)) rfl ?_
              have hI524 : InvC (u2 dt509 79 12 0) := InvC_u2 hI510 (lo := 0) (hi := 500) rfl rfl rfl (by decide) (by decide)
              have hF525 : Fr [79, 80, 82, 83, 84] dt (u2 dt509 79 12 0) := Fr_u2 hF511 (by decide)
              have w526 : (u2 dt509 79 12 0) 79 2 = dt509 79 2 := rfl
              have w527 : (u2 dt509 79 12 0) 79 9 = dt509 79 9 := rfl
              have w528 : (u2 dt509 79 12 0) 79 10 = dt509 79 10 := rfl
              have w529 : (u2 dt509 79 12 0) 79 11 = dt509 79 11 := rfl
              have w530 : (u2 dt509 79 12 0) 79 12 = 0 := rfl
              have w531 : (u2 dt509 79 12 0) 79 13 = dt509 79 13 := rfl
              have w532 : (u2 dt509 79 12 0) 79 14 = dt509 79 14 := rfl
              have w533 : (u2 dt509 79 12 0) 79 15 = dt509 79 15 := rfl
              have E84534 : (u2 dt509 79 12 0) 84 = dt509 84 := funext fun _ => rfl
              have E80535 : (u2 dt509 79 12 0) 80 = dt 80 := (funext fun _ => u2_ne (fun z => absurd z.1 (by decide))).trans hE80
              refine go_smpq PM174 (L' := [some (.inr (.inr (some 79))), some (.inl p1), some (.inl p2), some (.inl l75_3)]) (st' := []) (w' := (SH, (u2 dt509 79 12 0))) rfl rfl (s_pf rfl rfl rfl rfl ⟨by decide, by decide⟩) ?_
              have r536 : (-2147483648) ≤ dt509 79 17 ∧ dt509 79 17 ≤ 2147483647 := InvC_get hI510 79 17 rfl rfl
              refine go_toq PM174 (k := 3) (pc' := 133) (L' := [some (.inr (.inr (some 79))), some (.inl p1), some (.inl p2), some (.inl l75_3)]) (st' := [.inl (dt509 79 17), .inr (.inr (some 79))]) (w' := (SH, (u2 dt509 79 12 0))) rfl ?_
              have hI537 : InvC (u2 (u2 dt509 79 12 0) 79 19 (dt509 79 17)) := InvC_u2 hI524 (lo := -2147483648) (hi := 2147483647) rfl rfl rfl (by first | exact bnd1 r536 (by decide) | fail) (by first | exact bnd2 r536 (by decide) | fail)
              have hF538 : Fr [79, 80, 82, 83, 84] dt (u2 (u2 dt509 79 12 0) 79 19 (dt509 79 17)) := Fr_u2 hF525 (by decide)
              have w539 : (u2 (u2 dt509 79 12 0) 79 19 (dt509 79 17)) 79 2 = dt509 79 2 := w526
              have w540 : (u2 (u2 dt509 79 12 0) 79 19 (dt509 79 17)) 79 9 = dt509 79 9 := w527
              have w541 : (u2 (u2 dt509 79 12 0) 79 19 (dt509 79 17)) 79 10 = dt509 79 10 := w528
              have w542 : (u2 (u2 dt509 79 12 0) 79 19 (dt509 79 17)) 79 11 = dt509 79 11 := w529
              have w543 : (u2 (u2 dt509 79 12 0) 79 19 (dt509 79 17)) 79 12 = 0 := w530
              have w544 : (u2 (u2 dt509 79 12 0) 79 19 (dt509 79 17)) 79 13 = dt509 79 13 := w531
              have w545 : (u2 (u2 dt509 79 12 0) 79 19 (dt509 79 17)) 79 14 = dt509 79 14 := w532
              have w546 : (u2 (u2 dt509 79 12 0) 79 19 (dt509 79 17)) 79 15 = dt509 79 15 := w533
              clear w526 w527 w528 w529 w530 w531 w532 w533
              have E84547 : (u2 (u2 dt509 79 12 0) 79 19 (dt509 79 17)) 84 = dt509 84 := (funext fun _ => rfl).trans E84534
              have E80548 : (u2 (u2 dt509 79 12 0) 79 19 (dt509 79 17)) 80 = dt 80 := (funext fun _ => u2_ne (fun z => absurd z.1 (by decide))).trans E80535
              refine go_smpq PM174 (L' := [some (.inr (.inr (some 79))), some (.inl p1), some (.inl p2), some (.inl l75_3)]) (st' := []) (w' := (SH, (u2 (u2 dt509 79 12 0) 79 19 (dt509 79 17)))) rfl rfl (s_pf rfl rfl rfl rfl (by first | exact bnd r536 (by decide) (by decide) | exact ⟨by fail, by fail⟩)) ?_
              refine go_ifq PM174 (k := 2) (p1 := 145) (p2 := 141) (L' := [some (.inr (.inr (some 79))), some (.inl p1), some (.inl p2), some (.inl l75_3)]) (st' := [.inr (.inr (some 79))]) (w' := (SH, (u2 (u2 dt509 79 12 0) 79 19 (dt509 79 17)))) rfl (z_eq (a := l75_3) (by first | exact bnd i512 (by decide) (by decide) | exact ⟨by fail, by fail⟩)) (fun c549 => ?_) (fun c549 => ?_)
              · skip
                have r550 : (-2147483648) ≤ dt509 79 18 ∧ dt509 79 18 ≤ 2147483647 := InvC_get hI510 79 18 rfl rfl
                refine go_toq PM174 (k := 2) (pc' := 149) (L' := [some (.inr (.inr (some 79))), some (.inl p1), some (.inl p2), some (.inl l75_3)]) (st' := [.inl (dt509 79 18), .inr (.inr (some 79))]) (w' := (SH, (u2 (u2 dt509 79 12 0) 79 19 (dt509 79 17)))) rfl ?_
                have hI551 : InvC (u2 (u2 (u2 dt509 79 12 0) 79 19 (dt509 79 17)) 79 21 (dt509 79 18)) := InvC_u2 hI537 (lo := -2147483648) (hi := 2147483647) rfl rfl rfl (by first | exact bnd1 r550 (by decide) | fail) (by first | exact bnd2 r550 (by decide) | fail)
                have hF552 : Fr [79, 80, 82, 83, 84] dt (u2 (u2 (u2 dt509 79 12 0) 79 19 (dt509 79 17)) 79 21 (dt509 79 18)) := Fr_u2 hF538 (by decide)
                have w553 : (u2 (u2 (u2 dt509 79 12 0) 79 19 (dt509 79 17)) 79 21 (dt509 79 18)) 79 2 = dt509 79 2 := w539
                have w554 : (u2 (u2 (u2 dt509 79 12 0) 79 19 (dt509 79 17)) 79 21 (dt509 79 18)) 79 9 = dt509 79 9 := w540
                have w555 : (u2 (u2 (u2 dt509 79 12 0) 79 19 (dt509 79 17)) 79 21 (dt509 79 18)) 79 10 = dt509 79 10 := w541
                have w556 : (u2 (u2 (u2 dt509 79 12 0) 79 19 (dt509 79 17)) 79 21 (dt509 79 18)) 79 11 = dt509 79 11 := w542
                have w557 : (u2 (u2 (u2 dt509 79 12 0) 79 19 (dt509 79 17)) 79 21 (dt509 79 18)) 79 12 = 0 := w543
                have w558 : (u2 (u2 (u2 dt509 79 12 0) 79 19 (dt509 79 17)) 79 21 (dt509 79 18)) 79 13 = dt509 79 13 := w544
                have w559 : (u2 (u2 (u2 dt509 79 12 0) 79 19 (dt509 79 17)) 79 21 (dt509 79 18)) 79 14 = dt509 79 14 := w545
                have w560 : (u2 (u2 (u2 dt509 79 12 0) 79 19 (dt509 79 17)) 79 21 (dt509 79 18)) 79 15 = dt509 79 15 := w546
                clear w539 w540 w541 w542 w543 w544 w545 w546
                have E84561 : (u2 (u2 (u2 dt509 79 12 0) 79 19 (dt509 79 17)) 79 21 (dt509 79 18)) 84 = dt509 84 := (funext fun _ => rfl).trans E84547
                have E80562 : (u2 (u2 (u2 dt509 79 12 0) 79 19 (dt509 79 17)) 79 21 (dt509 79 18)) 80 = dt 80 := (funext fun _ => u2_ne (fun z => absurd z.1 (by decide))).trans E80548
                refine go_smpq PM174 (L' := [some (.inr (.inr (some 79))), some (.inl p1), some (.inl p2), some (.inl l75_3)]) (st' := []) (w' := (SH, (u2 (u2 (u2 dt509 79 12 0) 79 19 (dt509 79 17)) 79 21 (dt509 79 18)))) rfl rfl (s_pf rfl rfl rfl rfl (by first | exact bnd r550 (by decide) (by decide) | exact ⟨by fail, by fail⟩)) ?_
                refine go_ifq PM174 (k := 1) (p1 := 158) (p2 := 156) (L' := [some (.inr (.inr (some 79))), some (.inl p1), some (.inl p2), some (.inl l75_3)]) (st' := []) (w' := (SH, (u2 (u2 (u2 dt509 79 12 0) 79 19 (dt509 79 17)) 79 21 (dt509 79 18)))) rfl (z_ne (a := l75_3) (by first | exact bnd i512 (by decide) (by decide) | exact ⟨by fail, by fail⟩)) (fun c563 => ?_) (fun c563 => ?_)
                · skip
                  replace c563 := hid c563
                  refine go_toq PM174 (k := 2) (pc' := 160) (L' := [some (.inr (.inr (some 79))), some (.inl p1), some (.inl p2), some (.inl l75_3)]) (st' := [.inl p2, .inr (.inr (some 79))]) (w' := (SH, (u2 (u2 (u2 dt509 79 12 0) 79 19 (dt509 79 17)) 79 21 (dt509 79 18)))) rfl ?_
                  refine go_callq PM174 PM175 (Q' := _) rfl rfl rfl rfl (sp_X6_keeps_q0 L xs sio (d + 37) (u2 (u2 (u2 dt509 79 12 0) 79 19 (dt509 79 17)) 79 21 (dt509 79 18)) hI551 hM_dt509  p2 (by first | exact h_p2 | exact bnd h_p2 (by decide) (by decide) | exact ⟨by omega, by omega⟩) (by first | exact True.intro | with_reducible assumption | exact unhid (by with_reducible assumption) | rfl | omega | trivial | exact hI4 (by fail) (by fail) | exact hI5 (by fail) (by fail)) (by first | exact True.intro | with_reducible assumption | exact unhid (by with_reducible assumption) | rfl | omega | trivial | exact hI4 (by fail) (by fail) | exact hI5 (by fail) (by fail)) (by first | exact True.intro | with_reducible assumption | exact unhid (by with_reducible assumption) | rfl | (have z_ := unhid c563; omega) | trivial | exact hI4 (by fail) (by fail) | exact hI5 (by fail) (by fail))) ?_
                  rintro _ _ ⟨dt565, rfl, hI566, hF567, h564⟩
                  refine ⟨rfl, ?_⟩
                  have hF568 : Fr [79, 80, 82, 83, 84] dt dt565 := Fr_tr hF552 hF567 (by decide)
                  have w569 : dt565 79 2 = dt509 79 2 := (hF567 79 (by decide) 2).trans w553
                  have w570 : dt565 79 9 = dt509 79 9 := (hF567 79 (by decide) 9).trans w554
                  have w571 : dt565 79 10 = dt509 79 10 := (hF567 79 (by decide) 10).trans w555
                  have w572 : dt565 79 11 = dt509 79 11 := (hF567 79 (by decide) 11).trans w556
                  have w573 : dt565 79 12 = 0 := (hF567 79 (by decide) 12).trans w557
                  have w574 : dt565 79 13 = dt509 79 13 := (hF567 79 (by decide) 13).trans w558
                  have w575 : dt565 79 14 = dt509 79 14 := (hF567 79 (by decide) 14).trans w559
                  have w576 : dt565 79 15 = dt509 79 15 := (hF567 79 (by decide) 15).trans w560
                  clear w553 w554 w555 w556 w557 w558 w559 w560
                  have E84577 : dt565 84 = dt509 84 := (funext (hF567 84 (by decide))).trans E84561
                  rcases h564 with ⟨rfl, h564⟩
                  have hM578 : MW (dt565 80) := h564.1
                  obtain ⟨h564_0, h564_1, h564_2, h564_3, h564_4, h564_5, h564_6, h564_7⟩ := h564
                  have r579 : 0 ≤ dt565 79 10 ∧ dt565 79 10 ≤ 24 := InvC_get hI566 79 10 rfl rfl
                  refine go_retq PM174 (k := 2) (r := some (.inl (dt565 79 10))) (w1 := (SH, dt565)) rfl ?_
                  exact ⟨dt565, rfl, hI566, hF568, ⟨_, rfl, (by first | exact bnd r579 (by decide) (by decide) | exact ⟨by fail, by fail⟩), ⟨by first | exact True.intro | with_reducible assumption | exact unhid (by with_reducible assumption) | rfl | fail | trivial, by first | exact True.intro | with_reducible assumption | exact unhid (by with_reducible assumption) | rfl | omega | trivial, by first | assumption | exact hM, by first | rfl | exact congrFun E80562 0 | exact Eq.trans (by assumption) (congrFun E80562 0), by first | rfl | exact congrFun E80562 1 | exact Eq.trans (by assumption) (congrFun E80562 1), by first | rfl | exact congrFun E80562 2 | exact Eq.trans (by assumption) (congrFun E80562 2), by first | rfl | exact congrFun E80562 3 | exact Eq.trans (by assumption) (congrFun E80562 3), by first | rfl | exact congrFun E80562 4 | exact Eq.trans (by assumption) (congrFun E80562 4), by first | rfl | exact congrFun E80562 5 | exact Eq.trans (by assumption) (congrFun E80562 5), by first | exact fun _ _ => rfl | exact fun j hj => (h564_7 j hj).trans (congrFun E80562 j) | exact fun j hj => congrFun E80562 j | exact fun j hj => Eq.trans (h564_7 j hj) (congrFun (by assumption) j)⟩⟩⟩
                · skip
                  refine go_retq PM174 (k := 1) (r := some (.inl (-1))) (w1 := (SH, (u2 (u2 (u2 dt509 79 12 0) 79 19 (dt509 79 17)) 79 21 (dt509 79 18)))) rfl ?_
                  exact ⟨(u2 (u2 (u2 dt509 79 12 0) 79 19 (dt509 79 17)) 79 21 (dt509 79 18)), rfl, hI551, hF552, ⟨_, rfl, ⟨by decide, by decide⟩, ⟨by first | exact True.intro | with_reducible assumption | exact unhid (by with_reducible assumption) | rfl | fail | trivial, by first | exact True.intro | with_reducible assumption | exact unhid (by with_reducible assumption) | rfl | omega | trivial, by first | assumption | exact hM, by first | rfl | exact congrFun E80562 0 | exact Eq.trans (by assumption) (congrFun E80562 0), by first | rfl | exact congrFun E80562 1 | exact Eq.trans (by assumption) (congrFun E80562 1), by first | rfl | exact congrFun E80562 2 | exact Eq.trans (by assumption) (congrFun E80562 2), by first | rfl | exact congrFun E80562 3 | exact Eq.trans (by assumption) (congrFun E80562 3), by first | rfl | exact congrFun E80562 4 | exact Eq.trans (by assumption) (congrFun E80562 4), by first | rfl | exact congrFun E80562 5 | exact Eq.trans (by assumption) (congrFun E80562 5), by first | exact fun _ _ => rfl | exact fun j hj => (hI j hj).trans (congrFun E80562 j) | exact fun j hj => congrFun E80562 j | exact fun j hj => Eq.trans (hI j hj) (congrFun (by assumption) j)⟩⟩⟩
              · skip
                replace c549 := hid c549
                refine go_toq PM174 (k := 2) (pc' := 149) (L' := [some (.inr (.inr (some 79))), some (.inl p1), some (.inl p2), some (.inl l75_3)]) (st' := [.inl (-1), .inr (.inr (some 79))]) (w' := (SH, (u2 (u2 dt509 79 12 0) 79 19 (dt509 79 17)))) rfl ?_
                have hI580 : InvC (u2 (u2 (u2 dt509 79 12 0) 79 19 (dt509 79 17)) 79 21 (-1)) := InvC_u2 hI537 (lo := -2147483648) (hi := 2147483647) rfl rfl rfl (by decide) (by decide)
                have hF581 : Fr [79, 80, 82, 83, 84] dt (u2 (u2 (u2 dt509 79 12 0) 79 19 (dt509 79 17)) 79 21 (-1)) := Fr_u2 hF538 (by decide)
                have w582 : (u2 (u2 (u2 dt509 79 12 0) 79 19 (dt509 79 17)) 79 21 (-1)) 79 2 = dt509 79 2 := w539
                have w583 : (u2 (u2 (u2 dt509 79 12 0) 79 19 (dt509 79 17)) 79 21 (-1)) 79 9 = dt509 79 9 := w540
                have w584 : (u2 (u2 (u2 dt509 79 12 0) 79 19 (dt509 79 17)) 79 21 (-1)) 79 10 = dt509 79 10 := w541
                have w585 : (u2 (u2 (u2 dt509 79 12 0) 79 19 (dt509 79 17)) 79 21 (-1)) 79 11 = dt509 79 11 := w542
                have w586 : (u2 (u2 (u2 dt509 79 12 0) 79 19 (dt509 79 17)) 79 21 (-1)) 79 12 = 0 := w543
                have w587 : (u2 (u2 (u2 dt509 79 12 0) 79 19 (dt509 79 17)) 79 21 (-1)) 79 13 = dt509 79 13 := w544
                have w588 : (u2 (u2 (u2 dt509 79 12 0) 79 19 (dt509 79 17)) 79 21 (-1)) 79 14 = dt509 79 14 := w545
                have w589 : (u2 (u2 (u2 dt509 79 12 0) 79 19 (dt509 79 17)) 79 21 (-1)) 79 15 = dt509 79 15 := w546
                clear w539 w540 w541 w542 w543 w544 w545 w546
                have E84590 : (u2 (u2 (u2 dt509 79 12 0) 79 19 (dt509 79 17)) 79 21 (-1)) 84 = dt509 84 := (funext fun _ => rfl).trans E84547
                have E80591 : (u2 (u2 (u2 dt509 79 12 0) 79 19 (dt509 79 17)) 79 21 (-1)) 80 = dt 80 := (funext fun _ => u2_ne (fun z => absurd z.1 (by decide))).trans E80548
                refine go_smpq PM174 (L' := [some (.inr (.inr (some 79))), some (.inl p1), some (.inl p2), some (.inl l75_3)]) (st' := []) (w' := (SH, (u2 (u2 (u2 dt509 79 12 0) 79 19 (dt509 79 17)) 79 21 (-1)))) rfl rfl (s_pf rfl rfl rfl rfl ⟨by decide, by decide⟩) ?_
                refine go_ifq PM174 (k := 1) (p1 := 158) (p2 := 156) (L' := [some (.inr (.inr (some 79))), some (.inl p1), some (.inl p2), some (.inl l75_3)]) (st' := []) (w' := (SH, (u2 (u2 (u2 dt509 79 12 0) 79 19 (dt509 79 17)) 79 21 (-1)))) rfl (z_ne (a := l75_3) (by first | exact bnd i512 (by decide) (by decide) | exact ⟨by fail, by fail⟩)) (fun c592 => ?_) (fun c592 => ?_)
                · skip
                  replace c592 := hid c592
                  refine go_toq PM174 (k := 2) (pc' := 160) (L' := [some (.inr (.inr (some 79))), some (.inl p1), some (.inl p2), some (.inl l75_3)]) (st' := [.inl p2, .inr (.inr (some 79))]) (w' := (SH, (u2 (u2 (u2 dt509 79 12 0) 79 19 (dt509 79 17)) 79 21 (-1)))) rfl ?_
                  refine go_callq PM174 PM175 (Q' := _) rfl rfl rfl rfl (sp_X6_keeps_q0 L xs sio (d + 37) (u2 (u2 (u2 dt509 79 12 0) 79 19 (dt509 79 17)) 79 21 (-1)) hI580 hM_dt509  p2 (by first | exact h_p2 | exact bnd h_p2 (by decide) (by decide) | exact ⟨by omega, by omega⟩) (by first | exact True.intro | with_reducible assumption | exact unhid (by with_reducible assumption) | rfl | omega | trivial | exact hI4 (by fail) (by fail) | exact hI5 (by fail) (by fail)) (by first | exact True.intro | with_reducible assumption | exact unhid (by with_reducible assumption) | rfl | omega | trivial | exact hI4 (by fail) (by fail) | exact hI5 (by fail) (by fail)) (by first | exact True.intro | with_reducible assumption | exact unhid (by with_reducible assumption) | rfl | (have z_ := unhid c592; omega) | trivial | exact hI4 (by fail) (by fail) | exact hI5 (by fail) (by fail))) ?_
                  rintro _ _ ⟨dt594, rfl, hI595, hF596, h593⟩
                  refine ⟨rfl, ?_⟩
                  have hF597 : Fr [79, 80, 82, 83, 84] dt dt594 := Fr_tr hF581 hF596 (by decide)
                  have w598 : dt594 79 2 = dt509 79 2 := (hF596 79 (by decide) 2).trans w582
                  have w599 : dt594 79 9 = dt509 79 9 := (hF596 79 (by decide) 9).trans w583
                  have w600 : dt594 79 10 = dt509 79 10 := (hF596 79 (by decide) 10).trans w584
                  have w601 : dt594 79 11 = dt509 79 11 := (hF596 79 (by decide) 11).trans w585
                  have w602 : dt594 79 12 = 0 := (hF596 79 (by decide) 12).trans w586
                  have w603 : dt594 79 13 = dt509 79 13 := (hF596 79 (by decide) 13).trans w587
                  have w604 : dt594 79 14 = dt509 79 14 := (hF596 79 (by decide) 14).trans w588
                  have w605 : dt594 79 15 = dt509 79 15 := (hF596 79 (by decide) 15).trans w589
                  clear w582 w583 w584 w585 w586 w587 w588 w589
                  have E84606 : dt594 84 = dt509 84 := (funext (hF596 84 (by decide))).trans E84590
                  rcases h593 with ⟨rfl, h593⟩
                  have hM607 : MW (dt594 80) := h593.1
                  obtain ⟨h593_0, h593_1, h593_2, h593_3, h593_4, h593_5, h593_6, h593_7⟩ := h593
                  have r608 : 0 ≤ dt594 79 10 ∧ dt594 79 10 ≤ 24 := InvC_get hI595 79 10 rfl rfl
                  refine go_retq PM174 (k := 2) (r := some (.inl (dt594 79 10))) (w1 := (SH, dt594)) rfl ?_
                  exact ⟨dt594, rfl, hI595, hF597, ⟨_, rfl, (by first | exact bnd r608 (by decide) (by decide) | exact ⟨by fail, by fail⟩), ⟨by first | exact True.intro | with_reducible assumption | exact unhid (by with_reducible assumption) | rfl | fail | trivial, by first | exact True.intro | with_reducible assumption | exact unhid (by with_reducible assumption) | rfl | omega | trivial, by first | assumption | exact hM, by first | rfl | exact congrFun E80591 0 | exact Eq.trans (by assumption) (congrFun E80591 0), by first | rfl | exact congrFun E80591 1 | exact Eq.trans (by assumption) (congrFun E80591 1), by first | rfl | exact congrFun E80591 2 | exact Eq.trans (by assumption) (congrFun E80591 2), by first | rfl | exact congrFun E80591 3 | exact Eq.trans (by assumption) (congrFun E80591 3), by first | rfl | exact congrFun E80591 4 | exact Eq.trans (by assumption) (congrFun E80591 4), by first | rfl | exact congrFun E80591 5 | exact Eq.trans (by assumption) (congrFun E80591 5), by first | exact fun _ _ => rfl | exact fun j hj => (h593_7 j hj).trans (congrFun E80591 j) | exact fun j hj => congrFun E80591 j | exact fun j hj => Eq.trans (h593_7 j hj) (congrFun (by assumption) j)⟩⟩⟩
                · exfalso; (have z_ := unhid c549; omega)
            · skip
              replace c523 := hid c523
              have hc609 : l75_3 = 1 := by (have z_ := unhid c523; omega)
              subst hc609
              have r610 : (-2147483648) ≤ dt509 79 14 ∧ dt509 79 14 ≤ 2147483647 := InvC_get hI510 79 14 rfl rfl
              refine go_ifq PM174 (k := 2) (p1 := 123) (p2 := 86) (L' := [some (.inr (.inr (some 79))), some (.inl p1), some (.inl p2), some (.inl 1)]) (st' := []) (w' := (SH, dt509)) rfl (z_eq (a := dt509 79 14) (by first | exact bnd r610 (by decide) (by decide) | exact ⟨by fail, by fail⟩)) (fun c611 => ?_) (fun c611 => ?_)
              · skip
                refine go_toq PM174 (k := 2) (pc' := 125) (L' := [some (.inr (.inr (some 79))), some (.inl p1), some (.inl p2), some (.inl 1)]) (st' := [.inl 0, .inr (.inr (some 79))]) (w' := (SH, dt509)) rfl ?_
                have hI612 : InvC (u2 dt509 79 12 0) := InvC_u2 hI510 (lo := 0) (hi := 500) rfl rfl rfl (by decide) (by decide)
                have hF613 : Fr [79, 80, 82, 83, 84] dt (u2 dt509 79 12 0) := Fr_u2 hF511 (by decide)
                have w614 : (u2 dt509 79 12 0) 79 2 = dt509 79 2 := rfl
                have w615 : (u2 dt509 79 12 0) 79 9 = dt509 79 9 := rfl
                have w616 : (u2 dt509 79 12 0) 79 10 = dt509 79 10 := rfl
                have w617 : (u2 dt509 79 12 0) 79 11 = dt509 79 11 := rfl
                have w618 : (u2 dt509 79 12 0) 79 12 = 0 := rfl
                have w619 : (u2 dt509 79 12 0) 79 13 = dt509 79 13 := rfl
                have w620 : (u2 dt509 79 12 0) 79 14 = dt509 79 14 := rfl
                have w621 : (u2 dt509 79 12 0) 79 15 = dt509 79 15 := rfl
                have E84622 : (u2 dt509 79 12 0) 84 = dt509 84 := funext fun _ => rfl
                have E80623 : (u2 dt509 79 12 0) 80 = dt 80 := (funext fun _ => u2_ne (fun z => absurd z.1 (by decide))).trans hE80
                refine go_smpq PM174 (L' := [some (.inr (.inr (some 79))), some (.inl p1), some (.inl p2), some (.inl 1)]) (st' := []) (w' := (SH, (u2 dt509 79 12 0))) rfl rfl (s_pf rfl rfl rfl rfl ⟨by decide, by decide⟩) ?_
                have r624 : (-2147483648) ≤ dt509 79 17 ∧ dt509 79 17 ≤ 2147483647 := InvC_get hI510 79 17 rfl rfl
                refine go_toq PM174 (k := 3) (pc' := 133) (L' := [some (.inr (.inr (some 79))), some (.inl p1), some (.inl p2), some (.inl 1)]) (st' := [.inl (dt509 79 17), .inr (.inr (some 79))]) (w' := (SH, (u2 dt509 79 12 0))) rfl ?_
                have hI625 : InvC (u2 (u2 dt509 79 12 0) 79 19 (dt509 79 17)) := InvC_u2 hI612 (lo := -2147483648) (hi := 2147483647) rfl rfl rfl (by first | exact bnd1 r624 (by decide) | fail) (by first | exact bnd2 r624 (by decide) | fail)
                have hF626 : Fr [79, 80, 82, 83, 84] dt (u2 (u2 dt509 79 12 0) 79 19 (dt509 79 17)) := Fr_u2 hF613 (by decide)
                have w627 : (u2 (u2 dt509 79 12 0) 79 19 (dt509 79 17)) 79 2 = dt509 79 2 := w614
                have w628 : (u2 (u2 dt509 79 12 0) 79 19 (dt509 79 17)) 79 9 = dt509 79 9 := w615
                have w629 : (u2 (u2 dt509 79 12 0) 79 19 (dt509 79 17)) 79 10 = dt509 79 10 := w616
                have w630 : (u2 (u2 dt509 79 12 0) 79 19 (dt509 79 17)) 79 11 = dt509 79 11 := w617
                have w631 : (u2 (u2 dt509 79 12 0) 79 19 (dt509 79 17)) 79 12 = 0 := w618
                have w632 : (u2 (u2 dt509 79 12 0) 79 19 (dt509 79 17)) 79 13 = dt509 79 13 := w619
                have w633 : (u2 (u2 dt509 79 12 0) 79 19 (dt509 79 17)) 79 14 = dt509 79 14 := w620
                have w634 : (u2 (u2 dt509 79 12 0) 79 19 (dt509 79 17)) 79 15 = dt509 79 15 := w621
                clear w614 w615 w616 w617 w618 w619 w620 w621
                have E84635 : (u2 (u2 dt509 79 12 0) 79 19 (dt509 79 17)) 84 = dt509 84 := (funext fun _ => rfl).trans E84622
                have E80636 : (u2 (u2 dt509 79 12 0) 79 19 (dt509 79 17)) 80 = dt 80 := (funext fun _ => u2_ne (fun z => absurd z.1 (by decide))).trans E80623
                refine go_smpq PM174 (L' := [some (.inr (.inr (some 79))), some (.inl p1), some (.inl p2), some (.inl 1)]) (st' := []) (w' := (SH, (u2 (u2 dt509 79 12 0) 79 19 (dt509 79 17)))) rfl rfl (s_pf rfl rfl rfl rfl (by first | exact bnd r624 (by decide) (by decide) | exact ⟨by fail, by fail⟩)) ?_
                refine go_toq PM174 (k := 5) (pc' := 149) (L' := [some (.inr (.inr (some 79))), some (.inl p1), some (.inl p2), some (.inl 1)]) (st' := [.inl (-1), .inr (.inr (some 79))]) (w' := (SH, (u2 (u2 dt509 79 12 0) 79 19 (dt509 79 17)))) rfl ?_
                have hI637 : InvC (u2 (u2 (u2 dt509 79 12 0) 79 19 (dt509 79 17)) 79 21 (-1)) := InvC_u2 hI625 (lo := -2147483648) (hi := 2147483647) rfl rfl rfl (by decide) (by decide)
                have hF638 : Fr [79, 80, 82, 83, 84] dt (u2 (u2 (u2 dt509 79 12 0) 79 19 (dt509 79 17)) 79 21 (-1)) := Fr_u2 hF626 (by decide)
                have w639 : (u2 (u2 (u2 dt509 79 12 0) 79 19 (dt509 79 17)) 79 21 (-1)) 79 2 = dt509 79 2 := w627
                have w640 : (u2 (u2 (u2 dt509 79 12 0) 79 19 (dt509 79 17)) 79 21 (-1)) 79 9 = dt509 79 9 := w628
                have w641 : (u2 (u2 (u2 dt509 79 12 0) 79 19 (dt509 79 17)) 79 21 (-1)) 79 10 = dt509 79 10 := w629
                have w642 : (u2 (u2 (u2 dt509 79 12 0) 79 19 (dt509 79 17)) 79 21 (-1)) 79 11 = dt509 79 11 := w630
                have w643 : (u2 (u2 (u2 dt509 79 12 0) 79 19 (dt509 79 17)) 79 21 (-1)) 79 12 = 0 := w631
                have w644 : (u2 (u2 (u2 dt509 79 12 0) 79 19 (dt509 79 17)) 79 21 (-1)) 79 13 = dt509 79 13 := w632
                have w645 : (u2 (u2 (u2 dt509 79 12 0) 79 19 (dt509 79 17)) 79 21 (-1)) 79 14 = dt509 79 14 := w633
                have w646 : (u2 (u2 (u2 dt509 79 12 0) 79 19 (dt509 79 17)) 79 21 (-1)) 79 15 = dt509 79 15 := w634
                clear w627 w628 w629 w630 w631 w632 w633 w634
                have E84647 : (u2 (u2 (u2 dt509 79 12 0) 79 19 (dt509 79 17)) 79 21 (-1)) 84 = dt509 84 := (funext fun _ => rfl).trans E84635
                have E80648 : (u2 (u2 (u2 dt509 79 12 0) 79 19 (dt509 79 17)) 79 21 (-1)) 80 = dt 80 := (funext fun _ => u2_ne (fun z => absurd z.1 (by decide))).trans E80636
                refine go_smpq PM174 (L' := [some (.inr (.inr (some 79))), some (.inl p1), some (.inl p2), some (.inl 1)]) (st' := []) (w' := (SH, (u2 (u2 (u2 dt509 79 12 0) 79 19 (dt509 79 17)) 79 21 (-1)))) rfl rfl (s_pf rfl rfl rfl rfl ⟨by decide, by decide⟩) ?_
                refine go_toq PM174 (k := 4) (pc' := 160) (L' := [some (.inr (.inr (some 79))), some (.inl p1), some (.inl p2), some (.inl 1)]) (st' := [.inl p2, .inr (.inr (some 79))]) (w' := (SH, (u2 (u2 (u2 dt509 79 12 0) 79 19 (dt509 79 17)) 79 21 (-1)))) rfl ?_
                refine go_callq PM174 PM175 (Q' := _) rfl rfl rfl rfl (sp_X6_keeps_q0 L xs sio (d + 37) (u2 (u2 (u2 dt509 79 12 0) 79 19 (dt509 79 17)) 79 21 (-1)) hI637 hM_dt509  p2 (by first | exact h_p2 | exact bnd h_p2 (by decide) (by decide) | exact ⟨by omega, by omega⟩) (by first | exact True.intro | with_reducible assumption | exact unhid (by with_reducible assumption) | rfl | omega | trivial | exact hI4 (by fail) (by fail) | exact hI5 (by fail) (by fail)) (by first | exact True.intro | with_reducible assumption | exact unhid (by with_reducible assumption) | rfl | omega | trivial | exact hI4 (by fail) (by fail) | exact hI5 (by fail) (by fail)) (by first | exact True.intro | with_reducible assumption | exact unhid (by with_reducible assumption) | rfl | fail | trivial | exact hI4 (by omega) (by omega) | exact hI5 (by fail) (by fail))) ?_
                rintro _ _ ⟨dt650, rfl, hI651, hF652, h649⟩
                refine ⟨rfl, ?_⟩
                have hF653 : Fr [79, 80, 82, 83, 84] dt dt650 := Fr_tr hF638 hF652 (by decide)
                have w654 : dt650 79 2 = dt509 79 2 := (hF652 79 (by decide) 2).trans w639
                have w655 : dt650 79 9 = dt509 79 9 := (hF652 79 (by decide) 9).trans w640
                have w656 : dt650 79 10 = dt509 79 10 := (hF652 79 (by decide) 10).trans w641
                have w657 : dt650 79 11 = dt509 79 11 := (hF652 79 (by decide) 11).trans w642
                have w658 : dt650 79 12 = 0 := (hF652 79 (by decide) 12).trans w643
                have w659 : dt650 79 13 = dt509 79 13 := (hF652 79 (by decide) 13).trans w644
                have w660 : dt650 79 14 = dt509 79 14 := (hF652 79 (by decide) 14).trans w645
                have w661 : dt650 79 15 = dt509 79 15 := (hF652 79 (by decide) 15).trans w646
                clear w639 w640 w641 w642 w643 w644 w645 w646
                have E84662 : dt650 84 = dt509 84 := (funext (hF652 84 (by decide))).trans E84647
                rcases h649 with ⟨rfl, h649⟩
                have hM663 : MW (dt650 80) := h649.1
                obtain ⟨h649_0, h649_1, h649_2, h649_3, h649_4, h649_5, h649_6, h649_7⟩ := h649
                have r664 : 0 ≤ dt650 79 10 ∧ dt650 79 10 ≤ 24 := InvC_get hI651 79 10 rfl rfl
                refine go_retq PM174 (k := 2) (r := some (.inl (dt650 79 10))) (w1 := (SH, dt650)) rfl ?_
                exact ⟨dt650, rfl, hI651, hF653, ⟨_, rfl, (by first | exact bnd r664 (by decide) (by decide) | exact ⟨by fail, by fail⟩), ⟨by first | exact True.intro | with_reducible assumption | exact unhid (by with_reducible assumption) | rfl | fail | trivial, by first | exact True.intro | with_reducible assumption | exact unhid (by with_reducible assumption) | rfl | omega | trivial, by first | assumption | exact hM, by first | rfl | exact congrFun E80648 0 | exact Eq.trans (by assumption) (congrFun E80648 0), by first | rfl | exact congrFun E80648 1 | exact Eq.trans (by assumption) (congrFun E80648 1), by first | rfl | exact congrFun E80648 2 | exact Eq.trans (by assumption) (congrFun E80648 2), by first | rfl | exact congrFun E80648 3 | exact Eq.trans (by assumption) (congrFun E80648 3), by first | rfl | exact congrFun E80648 4 | exact Eq.trans (by assumption) (congrFun E80648 4), by first | rfl | exact congrFun E80648 5 | exact Eq.trans (by assumption) (congrFun E80648 5), by first | exact fun _ _ => rfl | exact fun j hj => (h649_7 j hj).trans (congrFun E80648 j) | exact fun j hj => congrFun E80648 j | exact fun j hj => Eq.trans (h649_7 j hj) (congrFun (by assumption) j)⟩⟩⟩
              · skip
                replace c611 := hid c611
                refine go_ifq PM174 (k := 1) (p1 := 97) (p2 := 90) (L' := [some (.inr (.inr (some 79))), some (.inl p1), some (.inl p2), some (.inl 1)]) (st' := []) (w' := (SH, dt509)) rfl (z_ne (a := p1) (by first | exact bnd h_p1 (by decide) (by decide) | exact ⟨by fail, by fail⟩)) (fun c665 => ?_) (fun c665 => ?_)
                · skip
                  replace c665 := hid c665
                  refine go_toq PM174 (k := 1) (pc' := 98) (L' := [some (.inr (.inr (some 79))), some (.inl p1), some (.inl p2), some (.inl 1)]) (st' := [.inr (.inr (some 79))]) (w' := (SH, dt509)) rfl ?_
                  refine go_callq PM174 PM173 (Q' := _) rfl rfl rfl rfl (sp_X6_aLine L xs sio (d + 0) dt509 hI510   (by first | exact True.intro | with_reducible assumption | exact unhid (by with_reducible assumption) | rfl | (have z_ := unhid c665; omega) | trivial | exact hI4 (by fail) (by fail) | exact hI5 (by fail) (by fail)) (by first | exact True.intro | with_reducible assumption | exact unhid (by with_reducible assumption) | rfl | (have z_ := unhid c665; omega) | trivial | exact hI4 (by fail) (by fail) | exact hI5 (by fail) (by fail)) (by first | exact True.intro | with_reducible assumption | exact unhid (by with_reducible assumption) | rfl | (have z_ := unhid c665; omega) | trivial | exact hI4 (by fail) (by fail) | exact hI5 (by fail) (by fail))) ?_
                  rintro _ _ ⟨dt667, rfl, hI668, hF669, h666⟩
                  refine ⟨rfl, ?_⟩
                  have hF670 : Fr [79, 80, 82, 83, 84] dt dt667 := Fr_tr hF511 hF669 (by decide)
                  have hM671 : MW (dt667 80) := MW_fr hM_dt509 hF669 (by decide)
                  have E80672 : dt667 80 = dt 80 := (funext (hF669 80 (by decide))).trans hE80
                  rcases h666 with ⟨rfl, h666⟩ | ⟨rfl, h666⟩
                  · skip
                    obtain ⟨h666_0, h666_1, h666_2⟩ := h666
                    have w673 : dt667 79 2 = dt509 79 2 := h666_0
                    have w674 : dt667 79 9 = dt509 79 9 := h666_1
                    have w675 : dt667 79 12 = dt509 79 12 := h666_2
                    clear h666_0 h666_1 h666_2
                    have r676 : 0 ≤ dt667 79 10 ∧ dt667 79 10 ≤ 24 := InvC_get hI668 79 10 rfl rfl
                    refine go_toq PM174 (k := 8) (pc' := 117) (L' := [some (.inr (.inr (some 79))), some (.inl p1), some (.inl p2), some (.inl 0)]) (st' := [.inl ((dt667 79 10) + 0), .inr (.inr (some 79))]) (w' := (SH, dt667)) rfl ?_
                    have hI677 : InvC (u2 dt667 79 10 ((dt667 79 10) + 0)) := InvC_u2 hI668 (lo := 0) (hi := 24) rfl rfl rfl (by omega) (by omega)
                    have hF678 : Fr [79, 80, 82, 83, 84] dt (u2 dt667 79 10 ((dt667 79 10) + 0)) := Fr_u2 hF670 (by decide)
                    have w679 : (u2 dt667 79 10 ((dt667 79 10) + 0)) 79 2 = dt509 79 2 := w673
                    have w680 : (u2 dt667 79 10 ((dt667 79 10) + 0)) 79 9 = dt509 79 9 := w674
                    have w681 : (u2 dt667 79 10 ((dt667 79 10) + 0)) 79 10 = (dt667 79 10) + 0 := rfl
                    have w682 : (u2 dt667 79 10 ((dt667 79 10) + 0)) 79 11 = dt667 79 11 := rfl
                    have w683 : (u2 dt667 79 10 ((dt667 79 10) + 0)) 79 12 = dt509 79 12 := w675
                    have w684 : (u2 dt667 79 10 ((dt667 79 10) + 0)) 79 13 = dt667 79 13 := rfl
                    have w685 : (u2 dt667 79 10 ((dt667 79 10) + 0)) 79 14 = dt667 79 14 := rfl
                    have w686 : (u2 dt667 79 10 ((dt667 79 10) + 0)) 79 15 = dt667 79 15 := rfl
                    have E84687 : (u2 dt667 79 10 ((dt667 79 10) + 0)) 84 = dt667 84 := funext fun _ => rfl
                    have E80688 : (u2 dt667 79 10 ((dt667 79 10) + 0)) 80 = dt 80 := (funext fun _ => u2_ne (fun z => absurd z.1 (by decide))).trans E80672
                    refine go_smpq PM174 (L' := [some (.inr (.inr (some 79))), some (.inl p1), some (.inl p2), some (.inl 0)]) (st' := []) (w' := (SH, (u2 dt667 79 10 ((dt667 79 10) + 0)))) rfl rfl (s_pf rfl rfl rfl rfl (by first | exact bndp r676 (by decide) (by decide) | exact ⟨by fail, by fail⟩)) ?_
                    refine go_toq PM174 (k := 1) (pc' := 75) (L' := [some (.inr (.inr (some 79))), some (.inl p1), some (.inl p2), some (.inl 0)]) (st' := []) (w' := (SH, (u2 dt667 79 10 ((dt667 79 10) + 0)))) rfl ?_
                    exact GO.le (ih_loop522 0 (u2 dt667 79 10 ((dt667 79 10) + 0)) hI677 hF678 hM671 ⟨by decide, by decide⟩ (by omega) (by first | with_reducible assumption | exact unhid (by with_reducible assumption) | (have z_ := unhid c665; omega) | exact (InvC_get (by assumption) 79 15 rfl rfl).2) (by omega) (by omega) (by intro _ hz; first | omega | exact ARW_0 (by fail) | exact ARW_s (hI4 (by fail) hz) (by fail) (by assumption) (by assumption) (by fail)) (by intro _ hz; first | omega | exact LRW_0 (by fail) | exact LRW_s (hI5 (by fail) hz) (by fail) (by assumption) (by assumption) (by assumption) (by fail) (by fail)) (by omega) (by omega) (by exact E80688) (by omega)) ⟨.inl rfl, .inl rfl, .inl rfl, .inl rfl, trivial⟩
                  · skip
                    obtain ⟨h666_0, h666_1, h666_2, h666_3, h666_4, h666_5, h666_6, h666_7, h666_8, h666_9, h666_10, h666_11, h666_12⟩ := h666
                    have w689 : dt667 79 2 = dt509 79 2 := h666_9
                    have w690 : dt667 79 9 = dt509 79 9 := h666_10
                    have w691 : dt667 79 10 = dt509 79 10 := h666_11
                    have w692 : dt667 79 12 = dt509 79 12 := h666_12
                    clear h666_9 h666_10 h666_11 h666_12
                    have r693 : 0 ≤ dt667 79 10 ∧ dt667 79 10 ≤ 24 := InvC_get hI668 79 10 rfl rfl
                    refine go_toq PM174 (k := 9) (pc' := 117) (L' := [some (.inr (.inr (some 79))), some (.inl p1), some (.inl p2), some (.inl 1)]) (st' := [.inl ((dt667 79 10) + 1), .inr (.inr (some 79))]) (w' := (SH, dt667)) rfl ?_
                    have hI694 : InvC (u2 dt667 79 10 ((dt667 79 10) + 1)) := InvC_u2 hI668 (lo := 0) (hi := 24) rfl rfl rfl (by omega) (by omega)
                    have hF695 : Fr [79, 80, 82, 83, 84] dt (u2 dt667 79 10 ((dt667 79 10) + 1)) := Fr_u2 hF670 (by decide)
                    have w696 : (u2 dt667 79 10 ((dt667 79 10) + 1)) 79 2 = dt509 79 2 := w689
                    have w697 : (u2 dt667 79 10 ((dt667 79 10) + 1)) 79 9 = dt509 79 9 := w690
                    have w698 : (u2 dt667 79 10 ((dt667 79 10) + 1)) 79 10 = (dt667 79 10) + 1 := rfl
                    have w699 : (u2 dt667 79 10 ((dt667 79 10) + 1)) 79 11 = dt667 79 11 := rfl
                    have w700 : (u2 dt667 79 10 ((dt667 79 10) + 1)) 79 12 = dt509 79 12 := w692
                    have w701 : (u2 dt667 79 10 ((dt667 79 10) + 1)) 79 13 = dt667 79 13 := rfl
                    have w702 : (u2 dt667 79 10 ((dt667 79 10) + 1)) 79 14 = dt667 79 14 := rfl
                    have w703 : (u2 dt667 79 10 ((dt667 79 10) + 1)) 79 15 = dt667 79 15 := rfl
                    have E84704 : (u2 dt667 79 10 ((dt667 79 10) + 1)) 84 = dt667 84 := funext fun _ => rfl
                    have E80705 : (u2 dt667 79 10 ((dt667 79 10) + 1)) 80 = dt 80 := (funext fun _ => u2_ne (fun z => absurd z.1 (by decide))).trans E80672
                    refine go_smpq PM174 (L' := [some (.inr (.inr (some 79))), some (.inl p1), some (.inl p2), some (.inl 1)]) (st' := []) (w' := (SH, (u2 dt667 79 10 ((dt667 79 10) + 1)))) rfl rfl (s_pf rfl rfl rfl rfl (by first | exact bndp r693 (by decide) (by decide) | exact ⟨by fail, by fail⟩)) ?_
                    refine go_toq PM174 (k := 1) (pc' := 75) (L' := [some (.inr (.inr (some 79))), some (.inl p1), some (.inl p2), some (.inl 1)]) (st' := []) (w' := (SH, (u2 dt667 79 10 ((dt667 79 10) + 1)))) rfl ?_
                    exact GO.le (ih_loop522 1 (u2 dt667 79 10 ((dt667 79 10) + 1)) hI694 hF695 hM671 ⟨by decide, by decide⟩ (by omega) (by first | with_reducible assumption | exact unhid (by with_reducible assumption) | omega | exact (InvC_get (by assumption) 79 15 rfl rfl).2) (by (have z_ := unhid c665; omega)) (by omega) (by intro _ hz; first | (have z_ := unhid c665; omega) | exact ARW_0 (by fail) | exact ARW_s (hI4 (by fail) hz) (by fail) (by assumption) (by assumption) (by fail)) (by intro _ hz; first | omega | exact LRW_0 (by fail) | exact LRW_s (hI5 (by fail) hz) (by fail) (by assumption) (by assumption) (by assumption) (by fail) (by fail)) (by omega) (by omega) (by exact E80705) (by omega)) ⟨.inl rfl, .inl rfl, .inl rfl, .inl rfl, trivial⟩
                · skip
                  refine go_toq PM174 (k := 1) (pc' := 91) (L' := [some (.inr (.inr (some 79))), some (.inl p1), some (.inl p2), some (.inl 1)]) (st' := [.inr (.inr (some 79))]) (w' := (SH, dt509)) rfl ?_
                  refine go_callq PM174 PM172 (Q' := _) rfl rfl rfl rfl (sp_X6_anAct L xs sio (d + 28) dt509 hI510   (by first | exact True.intro | with_reducible assumption | exact unhid (by with_reducible assumption) | rfl | (have z_ := unhid i513; omega) | trivial | exact hI4 (by fail) (by fail) | exact hI5 (by fail) (by fail))) ?_
                  rintro _ _ ⟨dt707, rfl, hI708, hF709, h706⟩
                  refine ⟨rfl, ?_⟩
                  have hF710 : Fr [79, 80, 82, 83, 84] dt dt707 := Fr_tr hF511 hF709 (by decide)
                  have hM711 : MW (dt707 80) := MW_fr hM_dt509 hF709 (by decide)
                  have E80712 : dt707 80 = dt 80 := (funext (hF709 80 (by decide))).trans hE80
                  have E84713 : dt707 84 = dt509 84 := funext (hF709 84 (by decide))
                  rcases h706 with ⟨rfl, h706⟩ | ⟨rfl, h706⟩
                  · skip
                    obtain ⟨h706_0, h706_1, h706_2⟩ := h706
                    have w714 : dt707 79 2 = dt509 79 2 := h706_0
                    have w715 : dt707 79 9 = dt509 79 9 := h706_1
                    have w716 : dt707 79 12 = dt509 79 12 := h706_2
                    clear h706_0 h706_1 h706_2
                    have r717 : 0 ≤ dt707 79 10 ∧ dt707 79 10 ≤ 24 := InvC_get hI708 79 10 rfl rfl
                    refine go_toq PM174 (k := 9) (pc' := 117) (L' := [some (.inr (.inr (some 79))), some (.inl p1), some (.inl p2), some (.inl 0)]) (st' := [.inl ((dt707 79 10) + 0), .inr (.inr (some 79))]) (w' := (SH, dt707)) rfl ?_
                    have hI718 : InvC (u2 dt707 79 10 ((dt707 79 10) + 0)) := InvC_u2 hI708 (lo := 0) (hi := 24) rfl rfl rfl (by omega) (by omega)
                    have hF719 : Fr [79, 80, 82, 83, 84] dt (u2 dt707 79 10 ((dt707 79 10) + 0)) := Fr_u2 hF710 (by decide)
                    have w720 : (u2 dt707 79 10 ((dt707 79 10) + 0)) 79 2 = dt509 79 2 := w714
                    have w721 : (u2 dt707 79 10 ((dt707 79 10) + 0)) 79 9 = dt509 79 9 := w715
                    have w722 : (u2 dt707 79 10 ((dt707 79 10) + 0)) 79 10 = (dt707 79 10) + 0 := rfl
                    have w723 : (u2 dt707 79 10 ((dt707 79 10) + 0)) 79 11 = dt707 79 11 := rfl
                    have w724 : (u2 dt707 79 10 ((dt707 79 10) + 0)) 79 12 = dt509 79 12 := w716
                    have w725 : (u2 dt707 79 10 ((dt707 79 10) + 0)) 79 13 = dt707 79 13 := rfl
                    have w726 : (u2 dt707 79 10 ((dt707 79 10) + 0)) 79 14 = dt707 79 14 := rfl
                    have w727 : (u2 dt707 79 10 ((dt707 79 10) + 0)) 79 15 = dt707 79 15 := rfl
                    have E84728 : (u2 dt707 79 10 ((dt707 79 10) + 0)) 84 = dt509 84 := (funext fun _ => rfl).trans E84713
                    have E80729 : (u2 dt707 79 10 ((dt707 79 10) + 0)) 80 = dt 80 := (funext fun _ => u2_ne (fun z => absurd z.1 (by decide))).trans E80712
                    refine go_smpq PM174 (L' := [some (.inr (.inr (some 79))), some (.inl p1), some (.inl p2), some (.inl 0)]) (st' := []) (w' := (SH, (u2 dt707 79 10 ((dt707 79 10) + 0)))) rfl rfl (s_pf rfl rfl rfl rfl (by first | exact bndp r717 (by decide) (by decide) | exact ⟨by fail, by fail⟩)) ?_
                    refine go_toq PM174 (k := 1) (pc' := 75) (L' := [some (.inr (.inr (some 79))), some (.inl p1), some (.inl p2), some (.inl 0)]) (st' := []) (w' := (SH, (u2 dt707 79 10 ((dt707 79 10) + 0)))) rfl ?_
                    exact GO.le (ih_loop522 0 (u2 dt707 79 10 ((dt707 79 10) + 0)) hI718 hF719 hM711 ⟨by decide, by decide⟩ (by omega) (by first | with_reducible assumption | exact unhid (by with_reducible assumption) | fail | exact (InvC_get (by assumption) 79 15 rfl rfl).2) (by omega) (by omega) (by intro _ hz; first | omega | exact ARW_0 (by fail) | exact ARW_s (hI4 (by fail) hz) (by fail) (by assumption) (by assumption) (by fail)) (by intro _ hz; first | omega | exact LRW_0 (by fail) | exact LRW_s (hI5 (by fail) hz) (by fail) (by assumption) (by assumption) (by assumption) (by fail) (by fail)) (by omega) (by omega) (by exact E80729) (by omega)) ⟨.inl rfl, .inl rfl, .inl rfl, .inl rfl, trivial⟩
                  · skip
                    obtain ⟨h706_0, h706_1, h706_2, h706_3, h706_4, h706_5, h706_6, h706_7, h706_8, h706_9, h706_10⟩ := h706
                    have w730 : dt707 79 2 = dt509 79 2 := h706_6
                    have w731 : dt707 79 9 = dt509 79 9 := h706_7
                    have w732 : dt707 79 10 = dt509 79 10 := h706_8
                    have w733 : dt707 79 11 = dt509 79 11 := h706_9
                    have w734 : dt707 79 12 = dt509 79 12 := h706_10
                    clear h706_6 h706_7 h706_8 h706_9 h706_10
                    have r735 : 0 ≤ dt707 79 10 ∧ dt707 79 10 ≤ 24 := InvC_get hI708 79 10 rfl rfl
                    refine go_toq PM174 (k := 10) (pc' := 117) (L' := [some (.inr (.inr (some 79))), some (.inl p1), some (.inl p2), some (.inl 1)]) (st' := [.inl ((dt707 79 10) + 1), .inr (.inr (some 79))]) (w' := (SH, dt707)) rfl ?_
                    have hI736 : InvC (u2 dt707 79 10 ((dt707 79 10) + 1)) := InvC_u2 hI708 (lo := 0) (hi := 24) rfl rfl rfl (by omega) (by omega)
                    have hF737 : Fr [79, 80, 82, 83, 84] dt (u2 dt707 79 10 ((dt707 79 10) + 1)) := Fr_u2 hF710 (by decide)
                    have w738 : (u2 dt707 79 10 ((dt707 79 10) + 1)) 79 2 = dt509 79 2 := w730
                    have w739 : (u2 dt707 79 10 ((dt707 79 10) + 1)) 79 9 = dt509 79 9 := w731
                    have w740 : (u2 dt707 79 10 ((dt707 79 10) + 1)) 79 10 = (dt707 79 10) + 1 := rfl
                    have w741 : (u2 dt707 79 10 ((dt707 79 10) + 1)) 79 11 = dt509 79 11 := w733
                    have w742 : (u2 dt707 79 10 ((dt707 79 10) + 1)) 79 12 = dt509 79 12 := w734
                    have w743 : (u2 dt707 79 10 ((dt707 79 10) + 1)) 79 13 = dt707 79 13 := rfl
                    have w744 : (u2 dt707 79 10 ((dt707 79 10) + 1)) 79 14 = dt707 79 14 := rfl
                    have w745 : (u2 dt707 79 10 ((dt707 79 10) + 1)) 79 15 = dt707 79 15 := rfl
                    have E84746 : (u2 dt707 79 10 ((dt707 79 10) + 1)) 84 = dt509 84 := (funext fun _ => rfl).trans E84713
                    have E80747 : (u2 dt707 79 10 ((dt707 79 10) + 1)) 80 = dt 80 := (funext fun _ => u2_ne (fun z => absurd z.1 (by decide))).trans E80712
                    refine go_smpq PM174 (L' := [some (.inr (.inr (some 79))), some (.inl p1), some (.inl p2), some (.inl 1)]) (st' := []) (w' := (SH, (u2 dt707 79 10 ((dt707 79 10) + 1)))) rfl rfl (s_pf rfl rfl rfl rfl (by first | exact bndp r735 (by decide) (by decide) | exact ⟨by fail, by fail⟩)) ?_
                    refine go_toq PM174 (k := 1) (pc' := 75) (L' := [some (.inr (.inr (some 79))), some (.inl p1), some (.inl p2), some (.inl 1)]) (st' := []) (w' := (SH, (u2 dt707 79 10 ((dt707 79 10) + 1)))) rfl ?_
                    exact GO.le (ih_loop522 1 (u2 dt707 79 10 ((dt707 79 10) + 1)) hI736 hF737 hM711 ⟨by decide, by decide⟩ (by omega) (by first | with_reducible assumption | exact unhid (by with_reducible assumption) | omega | exact (InvC_get (by assumption) 79 15 rfl rfl).2) (by (have z_ := unhid i515; omega)) (by omega) (by intro _ hz; first | fail | exact ARW_0 (by fail) | exact ARW_s (hI4 (by omega) hz) (by omega) (by assumption) (by assumption) (by omega)) (by intro _ hz; first | omega | exact LRW_0 (by fail) | exact LRW_s (hI5 (by fail) hz) (by fail) (by assumption) (by assumption) (by assumption) (by fail) (by fail)) (by omega) (by omega) (by exact E80747) (by omega)) ⟨.inl rfl, .inl rfl, .inl rfl, .inl rfl, trivial⟩
        exact GO.le (loop522 _ 1 dt409 hI410 hF412 hM413 ⟨by decide, by decide⟩ (by omega) (by first | with_reducible assumption | omega | exact (InvC_get (by assumption) 79 15 rfl rfl).2) (by omega) (by omega) (by intro _ hz; first | fail | exact ARW_0 (by omega) | exact ARW_s (hI4 (by fail) hz) (by fail) (by assumption) (by assumption) (by fail)) (by intro _ hz; first | omega | exact LRW_0 (by fail) | exact LRW_s (hI5 (by fail) hz) (by fail) (by assumption) (by assumption) (by assumption) (by fail) (by fail)) (by omega) (by omega) (by exact E80414) (Nat.lt_succ_self _)) ⟨.inl rfl, .inl rfl, .inl rfl, .inl rfl, trivial⟩
      · skip
        refine go_toq PM174 (k := 3) (pc' := 34) (L' := [some (.inr (.inr (some 79))), some (.inl p1), some (.inl p2), none]) (st' := [.inl 0, .inr (.inr (some 79))]) (w' := (SH, (u2 dt 79 17 0))) rfl ?_
        have hI748 : InvC (u2 (u2 dt 79 17 0) 79 12 0) := InvC_u2 hI4 (lo := 0) (hi := 500) rfl rfl rfl (by decide) (by decide)
        have hF749 : Fr [79, 80, 82, 83, 84] dt (u2 (u2 dt 79 17 0) 79 12 0) := Fr_u2 hF5 (by decide)
        have w750 : (u2 (u2 dt 79 17 0) 79 12 0) 79 2 = dt 79 2 := w6
        have w751 : (u2 (u2 dt 79 17 0) 79 12 0) 79 9 = dt 79 9 := w7
        have w752 : (u2 (u2 dt 79 17 0) 79 12 0) 79 10 = dt 79 10 := w8
        have w753 : (u2 (u2 dt 79 17 0) 79 12 0) 79 11 = dt 79 11 := w9
        have w754 : (u2 (u2 dt 79 17 0) 79 12 0) 79 12 = 0 := rfl
        have w755 : (u2 (u2 dt 79 17 0) 79 12 0) 79 13 = dt 79 13 := w11
        have w756 : (u2 (u2 dt 79 17 0) 79 12 0) 79 14 = dt 79 14 := w12
        have w757 : (u2 (u2 dt 79 17 0) 79 12 0) 79 15 = dt 79 15 := w13
        clear w6 w7 w8 w9 w10 w11 w12 w13
        have E84758 : (u2 (u2 dt 79 17 0) 79 12 0) 84 = dt 84 := (funext fun _ => rfl).trans E8414
        have E80759 : (u2 (u2 dt 79 17 0) 79 12 0) 80 = dt 80 := (funext fun _ => u2_ne (fun z => absurd z.1 (by decide))).trans E8015
        refine go_smpq PM174 (L' := [some (.inr (.inr (some 79))), some (.inl p1), some (.inl p2), none]) (st' := []) (w' := (SH, (u2 (u2 dt 79 17 0) 79 12 0))) rfl rfl (s_pf rfl rfl rfl rfl ⟨by decide, by decide⟩) ?_
        refine go_toq PM174 (k := 2) (pc' := 39) (L' := [some (.inr (.inr (some 79))), some (.inl p1), some (.inl p2), none]) (st' := [.inl 0, .inr (.inr (some 79))]) (w' := (SH, (u2 (u2 dt 79 17 0) 79 12 0))) rfl ?_
        have hI760 : InvC (u2 (u2 (u2 dt 79 17 0) 79 12 0) 79 19 0) := InvC_u2 hI748 (lo := -2147483648) (hi := 2147483647) rfl rfl rfl (by decide) (by decide)
        have hF761 : Fr [79, 80, 82, 83, 84] dt (u2 (u2 (u2 dt 79 17 0) 79 12 0) 79 19 0) := Fr_u2 hF749 (by decide)
        have w762 : (u2 (u2 (u2 dt 79 17 0) 79 12 0) 79 19 0) 79 2 = dt 79 2 := w750
        have w763 : (u2 (u2 (u2 dt 79 17 0) 79 12 0) 79 19 0) 79 9 = dt 79 9 := w751
        have w764 : (u2 (u2 (u2 dt 79 17 0) 79 12 0) 79 19 0) 79 10 = dt 79 10 := w752
        have w765 : (u2 (u2 (u2 dt 79 17 0) 79 12 0) 79 19 0) 79 11 = dt 79 11 := w753
        have w766 : (u2 (u2 (u2 dt 79 17 0) 79 12 0) 79 19 0) 79 12 = 0 := w754
        have w767 : (u2 (u2 (u2 dt 79 17 0) 79 12 0) 79 19 0) 79 13 = dt 79 13 := w755
        have w768 : (u2 (u2 (u2 dt 79 17 0) 79 12 0) 79 19 0) 79 14 = dt 79 14 := w756
        have w769 : (u2 (u2 (u2 dt 79 17 0) 79 12 0) 79 19 0) 79 15 = dt 79 15 := w757
        clear w750 w751 w752 w753 w754 w755 w756 w757
        have E84770 : (u2 (u2 (u2 dt 79 17 0) 79 12 0) 79 19 0) 84 = dt 84 := (funext fun _ => rfl).trans E84758
        have E80771 : (u2 (u2 (u2 dt 79 17 0) 79 12 0) 79 19 0) 80 = dt 80 := (funext fun _ => u2_ne (fun z => absurd z.1 (by decide))).trans E80759
        refine go_smpq PM174 (L' := [some (.inr (.inr (some 79))), some (.inl p1), some (.inl p2), none]) (st' := []) (w' := (SH, (u2 (u2 (u2 dt 79 17 0) 79 12 0) 79 19 0))) rfl rfl (s_pf rfl rfl rfl rfl ⟨by decide, by decide⟩) ?_
        refine go_toq PM174 (k := 2) (pc' := 44) (L' := [some (.inr (.inr (some 79))), some (.inl p1), some (.inl p2), none]) (st' := [.inl (-1), .inr (.inr (some 79))]) (w' := (SH, (u2 (u2 (u2 dt 79 17 0) 79 12 0) 79 19 0))) rfl ?_
        have hI772 : InvC (u2 (u2 (u2 (u2 dt 79 17 0) 79 12 0) 79 19 0) 79 21 (-1)) := InvC_u2 hI760 (lo := -2147483648) (hi := 2147483647) rfl rfl rfl (by decide) (by decide)
        have hF773 : Fr [79, 80, 82, 83, 84] dt (u2 (u2 (u2 (u2 dt 79 17 0) 79 12 0) 79 19 0) 79 21 (-1)) := Fr_u2 hF761 (by decide)
        have w774 : (u2 (u2 (u2 (u2 dt 79 17 0) 79 12 0) 79 19 0) 79 21 (-1)) 79 2 = dt 79 2 := w762
        have w775 : (u2 (u2 (u2 (u2 dt 79 17 0) 79 12 0) 79 19 0) 79 21 (-1)) 79 9 = dt 79 9 := w763
        have w776 : (u2 (u2 (u2 (u2 dt 79 17 0) 79 12 0) 79 19 0) 79 21 (-1)) 79 10 = dt 79 10 := w764
        have w777 : (u2 (u2 (u2 (u2 dt 79 17 0) 79 12 0) 79 19 0) 79 21 (-1)) 79 11 = dt 79 11 := w765
        have w778 : (u2 (u2 (u2 (u2 dt 79 17 0) 79 12 0) 79 19 0) 79 21 (-1)) 79 12 = 0 := w766
        have w779 : (u2 (u2 (u2 (u2 dt 79 17 0) 79 12 0) 79 19 0) 79 21 (-1)) 79 13 = dt 79 13 := w767
        have w780 : (u2 (u2 (u2 (u2 dt 79 17 0) 79 12 0) 79 19 0) 79 21 (-1)) 79 14 = dt 79 14 := w768
        have w781 : (u2 (u2 (u2 (u2 dt 79 17 0) 79 12 0) 79 19 0) 79 21 (-1)) 79 15 = dt 79 15 := w769
        clear w762 w763 w764 w765 w766 w767 w768 w769
        have E84782 : (u2 (u2 (u2 (u2 dt 79 17 0) 79 12 0) 79 19 0) 79 21 (-1)) 84 = dt 84 := (funext fun _ => rfl).trans E84770
        have E80783 : (u2 (u2 (u2 (u2 dt 79 17 0) 79 12 0) 79 19 0) 79 21 (-1)) 80 = dt 80 := (funext fun _ => u2_ne (fun z => absurd z.1 (by decide))).trans E80771
        refine go_smpq PM174 (L' := [some (.inr (.inr (some 79))), some (.inl p1), some (.inl p2), none]) (st' := []) (w' := (SH, (u2 (u2 (u2 (u2 dt 79 17 0) 79 12 0) 79 19 0) 79 21 (-1)))) rfl rfl (s_pf rfl rfl rfl rfl ⟨by decide, by decide⟩) ?_
        refine go_retq PM174 (k := 1) (r := some (.inl (-1))) (w1 := (SH, (u2 (u2 (u2 (u2 dt 79 17 0) 79 12 0) 79 19 0) 79 21 (-1)))) rfl ?_
        exact ⟨(u2 (u2 (u2 (u2 dt 79 17 0) 79 12 0) 79 19 0) 79 21 (-1)), rfl, hI772, hF773, ⟨_, rfl, ⟨by decide, by decide⟩, ⟨by first | exact True.intro | with_reducible assumption | rfl | fail | trivial, by first | exact True.intro | with_reducible assumption | rfl | fail | trivial, by first | assumption | exact hM, by first | rfl | exact congrFun E80783 0 | exact Eq.trans (by assumption) (congrFun E80783 0), by first | rfl | exact congrFun E80783 1 | exact Eq.trans (by assumption) (congrFun E80783 1), by first | rfl | exact congrFun E80783 2 | exact Eq.trans (by assumption) (congrFun E80783 2), by first | rfl | exact congrFun E80783 3 | exact Eq.trans (by assumption) (congrFun E80783 3), by first | rfl | exact congrFun E80783 4 | exact Eq.trans (by assumption) (congrFun E80783 4), by first | rfl | exact congrFun E80783 5 | exact Eq.trans (by assumption) (congrFun E80783 5), by first | exact fun _ _ => rfl | exact fun j hj => (hI j hj).trans (congrFun E80783 j) | exact fun j hj => congrFun E80783 j | exact fun j hj => Eq.trans (hI j hj) (congrFun (by assumption) j)⟩⟩⟩
  · skip
    refine go_toq PM174 (k := 3) (pc' := 34) (L' := [some (.inr (.inr (some 79))), some (.inl p1), some (.inl p2), none]) (st' := [.inl 0, .inr (.inr (some 79))]) (w' := (SH, (u2 dt 79 17 0))) rfl ?_
    have hI784 : InvC (u2 (u2 dt 79 17 0) 79 12 0) := InvC_u2 hI4 (lo := 0) (hi := 500) rfl rfl rfl (by decide) (by decide)
    have hF785 : Fr [79, 80, 82, 83, 84] dt (u2 (u2 dt 79 17 0) 79 12 0) := Fr_u2 hF5 (by decide)
    have w786 : (u2 (u2 dt 79 17 0) 79 12 0) 79 2 = dt 79 2 := w6
    have w787 : (u2 (u2 dt 79 17 0) 79 12 0) 79 9 = dt 79 9 := w7
    have w788 : (u2 (u2 dt 79 17 0) 79 12 0) 79 10 = dt 79 10 := w8
    have w789 : (u2 (u2 dt 79 17 0) 79 12 0) 79 11 = dt 79 11 := w9
    have w790 : (u2 (u2 dt 79 17 0) 79 12 0) 79 12 = 0 := rfl
    have w791 : (u2 (u2 dt 79 17 0) 79 12 0) 79 13 = dt 79 13 := w11
    have w792 : (u2 (u2 dt 79 17 0) 79 12 0) 79 14 = dt 79 14 := w12
    have w793 : (u2 (u2 dt 79 17 0) 79 12 0) 79 15 = dt 79 15 := w13
    clear w6 w7 w8 w9 w10 w11 w12 w13
    have E84794 : (u2 (u2 dt 79 17 0) 79 12 0) 84 = dt 84 := (funext fun _ => rfl).trans E8414
    have E80795 : (u2 (u2 dt 79 17 0) 79 12 0) 80 = dt 80 := (funext fun _ => u2_ne (fun z => absurd z.1 (by decide))).trans E8015
    refine go_smpq PM174 (L' := [some (.inr (.inr (some 79))), some (.inl p1), some (.inl p2), none]) (st' := []) (w' := (SH, (u2 (u2 dt 79 17 0) 79 12 0))) rfl rfl (s_pf rfl rfl rfl rfl ⟨by decide, by decide⟩) ?_
    refine go_toq PM174 (k := 2) (pc' := 39) (L' := [some (.inr (.inr (some 79))), some (.inl p1), some (.inl p2), none]) (st' := [.inl 0, .inr (.inr (some 79))]) (w' := (SH, (u2 (u2 dt 79 17 0) 79 12 0))) rfl ?_
    have hI796 : InvC (u2 (u2 (u2 dt 79 17 0) 79 12 0) 79 19 0) := InvC_u2 hI784 (lo := -2147483648) (hi := 2147483647) rfl rfl rfl (by decide) (by decide)
    have hF797 : Fr [79, 80, 82, 83, 84] dt (u2 (u2 (u2 dt 79 17 0) 79 12 0) 79 19 0) := Fr_u2 hF785 (by decide)
    have w798 : (u2 (u2 (u2 dt 79 17 0) 79 12 0) 79 19 0) 79 2 = dt 79 2 := w786
    have w799 : (u2 (u2 (u2 dt 79 17 0) 79 12 0) 79 19 0) 79 9 = dt 79 9 := w787
    have w800 : (u2 (u2 (u2 dt 79 17 0) 79 12 0) 79 19 0) 79 10 = dt 79 10 := w788
    have w801 : (u2 (u2 (u2 dt 79 17 0) 79 12 0) 79 19 0) 79 11 = dt 79 11 := w789
    have w802 : (u2 (u2 (u2 dt 79 17 0) 79 12 0) 79 19 0) 79 12 = 0 := w790
    have w803 : (u2 (u2 (u2 dt 79 17 0) 79 12 0) 79 19 0) 79 13 = dt 79 13 := w791
    have w804 : (u2 (u2 (u2 dt 79 17 0) 79 12 0) 79 19 0) 79 14 = dt 79 14 := w792
    have w805 : (u2 (u2 (u2 dt 79 17 0) 79 12 0) 79 19 0) 79 15 = dt 79 15 := w793
    clear w786 w787 w788 w789 w790 w791 w792 w793
    have E84806 : (u2 (u2 (u2 dt 79 17 0) 79 12 0) 79 19 0) 84 = dt 84 := (funext fun _ => rfl).trans E84794
    have E80807 : (u2 (u2 (u2 dt 79 17 0) 79 12 0) 79 19 0) 80 = dt 80 := (funext fun _ => u2_ne (fun z => absurd z.1 (by decide))).trans E80795
    refine go_smpq PM174 (L' := [some (.inr (.inr (some 79))), some (.inl p1), some (.inl p2), none]) (st' := []) (w' := (SH, (u2 (u2 (u2 dt 79 17 0) 79 12 0) 79 19 0))) rfl rfl (s_pf rfl rfl rfl rfl ⟨by decide, by decide⟩) ?_
    refine go_toq PM174 (k := 2) (pc' := 44) (L' := [some (.inr (.inr (some 79))), some (.inl p1), some (.inl p2), none]) (st' := [.inl (-1), .inr (.inr (some 79))]) (w' := (SH, (u2 (u2 (u2 dt 79 17 0) 79 12 0) 79 19 0))) rfl ?_
    have hI808 : InvC (u2 (u2 (u2 (u2 dt 79 17 0) 79 12 0) 79 19 0) 79 21 (-1)) := InvC_u2 hI796 (lo := -2147483648) (hi := 2147483647) rfl rfl rfl (by decide) (by decide)
    have hF809 : Fr [79, 80, 82, 83, 84] dt (u2 (u2 (u2 (u2 dt 79 17 0) 79 12 0) 79 19 0) 79 21 (-1)) := Fr_u2 hF797 (by decide)
    have w810 : (u2 (u2 (u2 (u2 dt 79 17 0) 79 12 0) 79 19 0) 79 21 (-1)) 79 2 = dt 79 2 := w798
    have w811 : (u2 (u2 (u2 (u2 dt 79 17 0) 79 12 0) 79 19 0) 79 21 (-1)) 79 9 = dt 79 9 := w799
    have w812 : (u2 (u2 (u2 (u2 dt 79 17 0) 79 12 0) 79 19 0) 79 21 (-1)) 79 10 = dt 79 10 := w800
    have w813 : (u2 (u2 (u2 (u2 dt 79 17 0) 79 12 0) 79 19 0) 79 21 (-1)) 79 11 = dt 79 11 := w801
    have w814 : (u2 (u2 (u2 (u2 dt 79 17 0) 79 12 0) 79 19 0) 79 21 (-1)) 79 12 = 0 := w802
    have w815 : (u2 (u2 (u2 (u2 dt 79 17 0) 79 12 0) 79 19 0) 79 21 (-1)) 79 13 = dt 79 13 := w803
    have w816 : (u2 (u2 (u2 (u2 dt 79 17 0) 79 12 0) 79 19 0) 79 21 (-1)) 79 14 = dt 79 14 := w804
    have w817 : (u2 (u2 (u2 (u2 dt 79 17 0) 79 12 0) 79 19 0) 79 21 (-1)) 79 15 = dt 79 15 := w805
    clear w798 w799 w800 w801 w802 w803 w804 w805
    have E84818 : (u2 (u2 (u2 (u2 dt 79 17 0) 79 12 0) 79 19 0) 79 21 (-1)) 84 = dt 84 := (funext fun _ => rfl).trans E84806
    have E80819 : (u2 (u2 (u2 (u2 dt 79 17 0) 79 12 0) 79 19 0) 79 21 (-1)) 80 = dt 80 := (funext fun _ => u2_ne (fun z => absurd z.1 (by decide))).trans E80807
    refine go_smpq PM174 (L' := [some (.inr (.inr (some 79))), some (.inl p1), some (.inl p2), none]) (st' := []) (w' := (SH, (u2 (u2 (u2 (u2 dt 79 17 0) 79 12 0) 79 19 0) 79 21 (-1)))) rfl rfl (s_pf rfl rfl rfl rfl ⟨by decide, by decide⟩) ?_
    refine go_retq PM174 (k := 1) (r := some (.inl (-1))) (w1 := (SH, (u2 (u2 (u2 (u2 dt 79 17 0) 79 12 0) 79 19 0) 79 21 (-1)))) rfl ?_
    exact ⟨(u2 (u2 (u2 (u2 dt 79 17 0) 79 12 0) 79 19 0) 79 21 (-1)), rfl, hI808, hF809, ⟨_, rfl, ⟨by decide, by decide⟩, ⟨by first | exact True.intro | with_reducible assumption | rfl | fail | trivial, by first | exact True.intro | with_reducible assumption | rfl | fail | trivial, by first | assumption | exact hM, by first | rfl | exact congrFun E80819 0 | exact Eq.trans (by assumption) (congrFun E80819 0), by first | rfl | exact congrFun E80819 1 | exact Eq.trans (by assumption) (congrFun E80819 1), by first | rfl | exact congrFun E80819 2 | exact Eq.trans (by assumption) (congrFun E80819 2), by first | rfl | exact congrFun E80819 3 | exact Eq.trans (by assumption) (congrFun E80819 3), by first | rfl | exact congrFun E80819 4 | exact Eq.trans (by assumption) (congrFun E80819 4), by first | rfl | exact congrFun E80819 5 | exact Eq.trans (by assumption) (congrFun E80819 5), by first | exact fun _ _ => rfl | exact fun j hj => (hI j hj).trans (congrFun E80819 j) | exact fun j hj => congrFun E80819 j | exact fun j hj => Eq.trans (hI j hj) (congrFun (by assumption) j)⟩⟩⟩
theorem sp_X6_text_qg (L : Nat) (xs : Nat → Int32) (sio : Option Nat) (d : Nat) (dt : Nat → Nat → Int) (hI : InvC dt) (hM : MW (dt 80))  (p1 : Int) (hr_p1 : (-2147483648) ≤ p1 ∧ p1 ≤ 2147483647) (p2 : Int) (hr_p2 : (-2147483648) ≤ p2 ∧ p2 ≤ 2147483647)  : GO (am_XX L xs sio) (d + 38) 174 0 [some (.inr (.inr (some 79))), some (.inl p1), some (.inl p2), none] [] (SH, dt) (fun r w2 => ∃ dt2 : Nat → Nat → Int, w2 = (SH, dt2) ∧ InvC dt2 ∧ Fr [79, 80, 82, 83, 84] dt dt2 ∧ ((∃ v : Int, r = some (.inl v) ∧ ((-1) ≤ v ∧ v ≤ 24) ∧ (dt2 79 12 = 0) ∧ (dt2 79 2 = dt 79 2) ∧ (MW (dt2 80)) ∧ (dt2 80 0 = dt 80 0) ∧ (dt2 80 1 = dt 80 1) ∧ (dt2 80 2 = dt 80 2) ∧ (dt2 80 3 = dt 80 3) ∧ (dt2 80 4 = dt 80 4) ∧ (dt2 80 5 = dt 80 5) ∧ (∀ j : Nat, (j = 1 ∨ 5320 ≤ j) → dt2 80 j = dt 80 j) ∧ (dt2 79 12 = 0) ∧ (dt2 79 2 = dt 79 2) ∧ (TRS p1 p2 (mB (dt 85) (dt 79 12)) (dt 79 12).toNat v (dt2 79 19) (dt2 79 21)) ∧ (TSR p1 p2 (mB (dt 85) (dt 79 12)) (dt 79 12).toNat (dt2 79 19) v (dt 80) (dt2 80))))) := by
  refine GO.mono (GO.both (sp_X6_text_q L xs sio (d + 0) dt hI hM  p1 ⟨by omega, by omega⟩ p2 ⟨by omega, by omega⟩ ) (sp_X6_text_g L xs sio (d + 0) dt hI  p1 ⟨by omega, by omega⟩ p2 ⟨by omega, by omega⟩ )) ?_
  rintro r w2 ⟨⟨dt2, rfl, hI2, hF2, hA⟩, ⟨dt3, hw, _, _, hB⟩⟩
  have e : dt2 = dt3 := congrArg Prod.snd hw
  subst e
  refine ⟨dt2, rfl, hI2, hF2, ?_⟩
  rcases hA with hA <;> rcases hB with hB
  · obtain ⟨v1, e1, r1, hA⟩ := hA; obtain ⟨v2, e2, r2, hB⟩ := hB
    have ev : v2 = v1 := by rw [e1] at e2; cases e2; rfl
    subst ev
    exact ⟨_, e1, r1, hA.1, hA.2.1, hA.2.2.1, hA.2.2.2.1, hA.2.2.2.2.1, hA.2.2.2.2.2.1, hA.2.2.2.2.2.2.1, hA.2.2.2.2.2.2.2.1, hA.2.2.2.2.2.2.2.2.1, hA.2.2.2.2.2.2.2.2.2, hB.1, hB.2.1, hB.2.2.1, hB.2.2.2⟩
theorem sp_X2_copyFrom_7f (L : Nat) (xs : Nat → Int32) (sio : Option Nat) (d : Nat) (dt : Nat → Nat → Int) (hI : InvC dt)    : GO (am_XX L xs sio) (d + 1) 42 0 [some (.inr (.inr (some 7))), some (.inr (.inr (some 24)))] [] (SH, dt) (fun r w2 => ∃ dt2 : Nat → Nat → Int, w2 = (SH, dt2) ∧ InvC dt2 ∧ Fr [7, 8] dt dt2 ∧ ((r = none ∧ (dt2 7 3 = dt 24 3) ∧ (∀ j : Nat, j < 60 → dt2 8 j = dt 25 j)))) := by
  have hF : Fr [7, 8] dt dt := Fr_refl
  have r1 : 0 ≤ dt 24 3 ∧ dt 24 3 ≤ 12 := InvC_get hI 24 3 rfl rfl
  refine go_toq PM42 (k := 4) (pc' := 6) (L' := [some (.inr (.inr (some 7))), some (.inr (.inr (some 24)))]) (st' := [.inr (.inr (some 7)), .inl (dt 24 3), .inr (.inr (some 7))]) (w' := (SH, dt)) rfl ?_
  refine go_smpq PM42 (L' := [some (.inr (.inr (some 7))), some (.inr (.inr (some 24)))]) (st' := [.inl 12, .inl (dt 24 3), .inr (.inr (some 7))]) (w' := (SH, dt)) rfl rfl (s_gfc rfl rfl rfl (hI.2 7 0 rfl)) ?_
  refine go_callq PM42 PM266 (Q' := _) rfl rfl rfl rfl (sp_J9_min_7cf53 L xs sio (d + 0) dt hI  (dt 24 3) (by first | exact bnd r1 (by decide) (by decide) | exact ⟨by fail, by fail⟩) 12 ⟨by decide, by decide⟩ ) ?_
  rintro _ _ ⟨rfl, h2⟩
  refine ⟨rfl, ?_⟩
  rcases h2 with ⟨v_h2, rfl, h2r, h2⟩
  have hI3 : InvC (u2 dt 7 3 v_h2) := InvC_u2 hI (lo := 0) (hi := 12) rfl rfl rfl (by first | exact bnd1 h2r (by decide) | omega) (by first | exact bnd2 h2r (by decide) | omega)
  have hF4 : Fr [7, 8] dt (u2 dt 7 3 v_h2) := Fr_u2 hF (by decide)
  have w5 : (u2 dt 7 3 v_h2) 7 3 = v_h2 := rfl
  refine go_smpq PM42 (L' := [some (.inr (.inr (some 7))), some (.inr (.inr (some 24)))]) (st' := []) (w' := (SH, (u2 dt 7 3 v_h2))) rfl rfl (s_pf rfl rfl rfl rfl ⟨by omega, by omega⟩) ?_
  refine go_toq PM42 (k := 12) (pc' := 35) (L' := [some (.inr (.inr (some 7))), some (.inr (.inr (some 24)))]) (st' := [.inl 60, .inl 60, .inl 0, .inr (.inr (some 8)), .inl 0, .inr (.inr (some 25))]) (w' := (SH, (u2 dt 7 3 v_h2))) rfl ?_
  refine go_callq PM42 PM266 (Q' := _) rfl rfl rfl rfl (sp_J9_min_7cf53 L xs sio (d + 0) (u2 dt 7 3 v_h2) hI3  60 ⟨by decide, by decide⟩ 60 ⟨by decide, by decide⟩ ) ?_
  rintro _ _ ⟨rfl, h6⟩
  refine ⟨rfl, ?_⟩
  rcases h6 with ⟨v_h6, rfl, h6r, h6⟩
  have hI7 : InvC (am_cp (u2 dt 7 3 v_h2) 25 8 0 0 (v_h6).toNat) := InvC_cp hI3 (fun _ _ => rfl) (fun _ _ => rfl) (fun _ => rfl)
  have hF8 : Fr [7, 8] dt (am_cp (u2 dt 7 3 v_h2) 25 8 0 0 (v_h6).toNat) := Fr_cp hF4 (by decide)
  have w9 : (am_cp (u2 dt 7 3 v_h2) 25 8 0 0 (v_h6).toNat) 7 3 = (u2 dt 7 3 v_h2) 7 3 := rfl
  refine go_cpyq PM42 (L' := [some (.inr (.inr (some 7))), some (.inr (.inr (some 24)))]) (st' := []) (w' := (SH, (am_cp (u2 dt 7 3 v_h2) 25 8 0 0 (v_h6).toNat))) rfl rfl (s_cpy (n0 := 60) (n1 := 60) rfl rfl ⟨⟨by omega, by omega, by omega⟩, by omega, by omega, by decide⟩) ?_
  refine go_retq PM42 (k := 0) (r := none) (w1 := (SH, (am_cp (u2 dt 7 3 v_h2) 25 8 0 0 (v_h6).toNat))) rfl ?_
  exact ⟨(am_cp (u2 dt 7 3 v_h2) 25 8 0 0 (v_h6).toNat), rfl, hI7, hF8, ⟨rfl, ⟨by first | exact True.intro | with_reducible assumption | rfl | omega | trivial, by intro j hj; exact (cp_atv (by omega)).trans rfl⟩⟩⟩
theorem sp_X2_copyFrom_24f (L : Nat) (xs : Nat → Int32) (sio : Option Nat) (d : Nat) (dt : Nat → Nat → Int) (hI : InvC dt)    : GO (am_XX L xs sio) (d + 1) 42 0 [some (.inr (.inr (some 24))), some (.inr (.inr (some 7)))] [] (SH, dt) (fun r w2 => ∃ dt2 : Nat → Nat → Int, w2 = (SH, dt2) ∧ InvC dt2 ∧ Fr [24, 25] dt dt2 ∧ ((r = none ∧ (dt2 24 3 = dt 7 3) ∧ (∀ j : Nat, j < 60 → dt2 25 j = dt 8 j)))) := by
  have hF : Fr [24, 25] dt dt := Fr_refl
  have r1 : 0 ≤ dt 7 3 ∧ dt 7 3 ≤ 12 := InvC_get hI 7 3 rfl rfl
  refine go_toq PM42 (k := 4) (pc' := 6) (L' := [some (.inr (.inr (some 24))), some (.inr (.inr (some 7)))]) (st' := [.inr (.inr (some 24)), .inl (dt 7 3), .inr (.inr (some 24))]) (w' := (SH, dt)) rfl ?_
  refine go_smpq PM42 (L' := [some (.inr (.inr (some 24))), some (.inr (.inr (some 7)))]) (st' := [.inl 12, .inl (dt 7 3), .inr (.inr (some 24))]) (w' := (SH, dt)) rfl rfl (s_gfc rfl rfl rfl (hI.2 24 0 rfl)) ?_
  refine go_callq PM42 PM266 (Q' := _) rfl rfl rfl rfl (sp_J9_min_7cf53 L xs sio (d + 0) dt hI  (dt 7 3) (by first | exact bnd r1 (by decide) (by decide) | exact ⟨by fail, by fail⟩) 12 ⟨by decide, by decide⟩ ) ?_
  rintro _ _ ⟨rfl, h2⟩
  refine ⟨rfl, ?_⟩
  rcases h2 with ⟨v_h2, rfl, h2r, h2⟩
  have hI3 : InvC (u2 dt 24 3 v_h2) := InvC_u2 hI (lo := 0) (hi := 12) rfl rfl rfl (by first | exact bnd1 h2r (by decide) | omega) (by first | exact bnd2 h2r (by decide) | omega)
  have hF4 : Fr [24, 25] dt (u2 dt 24 3 v_h2) := Fr_u2 hF (by decide)
  have w5 : (u2 dt 24 3 v_h2) 24 3 = v_h2 := rfl
  refine go_smpq PM42 (L' := [some (.inr (.inr (some 24))), some (.inr (.inr (some 7)))]) (st' := []) (w' := (SH, (u2 dt 24 3 v_h2))) rfl rfl (s_pf rfl rfl rfl rfl ⟨by omega, by omega⟩) ?_
  refine go_toq PM42 (k := 12) (pc' := 35) (L' := [some (.inr (.inr (some 24))), some (.inr (.inr (some 7)))]) (st' := [.inl 60, .inl 60, .inl 0, .inr (.inr (some 25)), .inl 0, .inr (.inr (some 8))]) (w' := (SH, (u2 dt 24 3 v_h2))) rfl ?_
  refine go_callq PM42 PM266 (Q' := _) rfl rfl rfl rfl (sp_J9_min_7cf53 L xs sio (d + 0) (u2 dt 24 3 v_h2) hI3  60 ⟨by decide, by decide⟩ 60 ⟨by decide, by decide⟩ ) ?_
  rintro _ _ ⟨rfl, h6⟩
  refine ⟨rfl, ?_⟩
  rcases h6 with ⟨v_h6, rfl, h6r, h6⟩
  have hI7 : InvC (am_cp (u2 dt 24 3 v_h2) 8 25 0 0 (v_h6).toNat) := InvC_cp hI3 (fun _ _ => rfl) (fun _ _ => rfl) (fun _ => rfl)
  have hF8 : Fr [24, 25] dt (am_cp (u2 dt 24 3 v_h2) 8 25 0 0 (v_h6).toNat) := Fr_cp hF4 (by decide)
  have w9 : (am_cp (u2 dt 24 3 v_h2) 8 25 0 0 (v_h6).toNat) 24 3 = (u2 dt 24 3 v_h2) 24 3 := rfl
  refine go_cpyq PM42 (L' := [some (.inr (.inr (some 24))), some (.inr (.inr (some 7)))]) (st' := []) (w' := (SH, (am_cp (u2 dt 24 3 v_h2) 8 25 0 0 (v_h6).toNat))) rfl rfl (s_cpy (n0 := 60) (n1 := 60) rfl rfl ⟨⟨by omega, by omega, by omega⟩, by omega, by omega, by decide⟩) ?_
  refine go_retq PM42 (k := 0) (r := none) (w1 := (SH, (am_cp (u2 dt 24 3 v_h2) 8 25 0 0 (v_h6).toNat))) rfl ?_
  exact ⟨(am_cp (u2 dt 24 3 v_h2) 8 25 0 0 (v_h6).toNat), rfl, hI7, hF8, ⟨rfl, ⟨by first | exact True.intro | with_reducible assumption | rfl | omega | trivial, by intro j hj; exact (cp_atv (by omega)).trans rfl⟩⟩⟩
theorem sp_X0_copyFrom_1q (L : Nat) (xs : Nat → Int32) (sio : Option Nat) (d : Nat) (dt : Nat → Nat → Int) (hI : InvC dt)    : GO (am_XX L xs sio) (d + 2) 4 0 [some (.inr (.inr (some 1))), some (.inr (.inr (some 18)))] [] (SH, dt) (fun r w2 => ∃ dt2 : Nat → Nat → Int, w2 = (SH, dt2) ∧ InvC dt2 ∧ Fr [1, 2, 3, 4, 5, 6, 7, 8, 9, 10, 11, 12, 13, 14, 15, 16, 17] dt dt2 ∧ ((r = none ∧ (dt2 1 0 = dt 18 0) ∧ (dt2 7 3 = dt 24 3) ∧ (dt2 10 3 = dt 27 3) ∧ (dt2 12 3 = dt 29 3) ∧ (dt2 14 3 = dt 31 3) ∧ (dt2 16 3 = dt 33 3) ∧ (∀ j : Nat, j < 192 → dt2 2 j = dt 19 j) ∧ (∀ j : Nat, j < 8 → dt2 3 j = dt 20 j) ∧ (∀ j : Nat, j < 60 → dt2 8 j = dt 25 j) ∧ (∀ j : Nat, j < 132 → dt2 9 j = dt 26 j)))) := by
  have hF : Fr [1, 2, 3, 4, 5, 6, 7, 8, 9, 10, 11, 12, 13, 14, 15, 16, 17] dt dt := Fr_refl
  have r1 : (-2147483648) ≤ dt 18 0 ∧ dt 18 0 ≤ 2147483647 := InvC_get hI 18 0 rfl rfl
  refine go_toq PM4 (k := 3) (pc' := 5) (L' := [some (.inr (.inr (some 1))), some (.inr (.inr (some 18)))]) (st' := [.inl (dt 18 0), .inr (.inr (some 1))]) (w' := (SH, dt)) rfl ?_
  have hI2 : InvC (u2 dt 1 0 (dt 18 0)) := InvC_u2 hI (lo := -2147483648) (hi := 2147483647) rfl rfl rfl (by first | exact bnd1 r1 (by decide) | omega) (by first | exact bnd2 r1 (by decide) | omega)
  have hF3 : Fr [1, 2, 3, 4, 5, 6, 7, 8, 9, 10, 11, 12, 13, 14, 15, 16, 17] dt (u2 dt 1 0 (dt 18 0)) := Fr_u2 hF (by decide)
  have w4 : (u2 dt 1 0 (dt 18 0)) 1 0 = dt 18 0 := rfl
  have w5 : (u2 dt 1 0 (dt 18 0)) 7 3 = dt 7 3 := rfl
  have w6 : (u2 dt 1 0 (dt 18 0)) 10 3 = dt 10 3 := rfl
  have w7 : (u2 dt 1 0 (dt 18 0)) 12 3 = dt 12 3 := rfl
  have w8 : (u2 dt 1 0 (dt 18 0)) 14 3 = dt 14 3 := rfl
  have w9 : (u2 dt 1 0 (dt 18 0)) 16 3 = dt 16 3 := rfl
  have w10 : (u2 dt 1 0 (dt 18 0)) 18 0 = dt 18 0 := rfl
  have w11 : (u2 dt 1 0 (dt 18 0)) 24 3 = dt 24 3 := rfl
  have w12 : (u2 dt 1 0 (dt 18 0)) 27 3 = dt 27 3 := rfl
  have w13 : (u2 dt 1 0 (dt 18 0)) 29 3 = dt 29 3 := rfl
  have w14 : (u2 dt 1 0 (dt 18 0)) 31 3 = dt 31 3 := rfl
  have w15 : (u2 dt 1 0 (dt 18 0)) 33 3 = dt 33 3 := rfl
  refine go_smpq PM4 (L' := [some (.inr (.inr (some 1))), some (.inr (.inr (some 18)))]) (st' := []) (w' := (SH, (u2 dt 1 0 (dt 18 0)))) rfl rfl (s_pf rfl rfl rfl rfl (by first | exact bnd r1 (by decide) (by decide) | exact ⟨by omega, by omega⟩)) ?_
  refine go_toq PM4 (k := 9) (pc' := 23) (L' := [some (.inr (.inr (some 1))), some (.inr (.inr (some 18)))]) (st' := [.inl 192, .inl 0, .inr (.inr (some 2)), .inl 0, .inr (.inr (some 19))]) (w' := (SH, (u2 dt 1 0 (dt 18 0)))) rfl ?_
  have hI16 : InvC (am_cp (u2 dt 1 0 (dt 18 0)) 19 2 0 0 192) := InvC_cp hI2 (fun _ _ => rfl) (fun _ _ => rfl) (fun _ => rfl)
  have hF17 : Fr [1, 2, 3, 4, 5, 6, 7, 8, 9, 10, 11, 12, 13, 14, 15, 16, 17] dt (am_cp (u2 dt 1 0 (dt 18 0)) 19 2 0 0 192) := Fr_cp hF3 (by decide)
  have w18 : (am_cp (u2 dt 1 0 (dt 18 0)) 19 2 0 0 192) 1 0 = (u2 dt 1 0 (dt 18 0)) 1 0 := rfl
  have w19 : (am_cp (u2 dt 1 0 (dt 18 0)) 19 2 0 0 192) 7 3 = (u2 dt 1 0 (dt 18 0)) 7 3 := rfl
  have w20 : (am_cp (u2 dt 1 0 (dt 18 0)) 19 2 0 0 192) 10 3 = (u2 dt 1 0 (dt 18 0)) 10 3 := rfl
  have w21 : (am_cp (u2 dt 1 0 (dt 18 0)) 19 2 0 0 192) 12 3 = (u2 dt 1 0 (dt 18 0)) 12 3 := rfl
  have w22 : (am_cp (u2 dt 1 0 (dt 18 0)) 19 2 0 0 192) 14 3 = (u2 dt 1 0 (dt 18 0)) 14 3 := rfl
  have w23 : (am_cp (u2 dt 1 0 (dt 18 0)) 19 2 0 0 192) 16 3 = (u2 dt 1 0 (dt 18 0)) 16 3 := rfl
  have w24 : (am_cp (u2 dt 1 0 (dt 18 0)) 19 2 0 0 192) 18 0 = (u2 dt 1 0 (dt 18 0)) 18 0 := rfl
  have w25 : (am_cp (u2 dt 1 0 (dt 18 0)) 19 2 0 0 192) 24 3 = (u2 dt 1 0 (dt 18 0)) 24 3 := rfl
  have w26 : (am_cp (u2 dt 1 0 (dt 18 0)) 19 2 0 0 192) 27 3 = (u2 dt 1 0 (dt 18 0)) 27 3 := rfl
  have w27 : (am_cp (u2 dt 1 0 (dt 18 0)) 19 2 0 0 192) 29 3 = (u2 dt 1 0 (dt 18 0)) 29 3 := rfl
  have w28 : (am_cp (u2 dt 1 0 (dt 18 0)) 19 2 0 0 192) 31 3 = (u2 dt 1 0 (dt 18 0)) 31 3 := rfl
  have w29 : (am_cp (u2 dt 1 0 (dt 18 0)) 19 2 0 0 192) 33 3 = (u2 dt 1 0 (dt 18 0)) 33 3 := rfl
  have T30 : ∀ j : Nat, j < 192 → (am_cp (u2 dt 1 0 (dt 18 0)) 19 2 0 0 192) 2 j = dt 19 j := fun j hj => (cp_atv hj).trans (hF3 19 (by decide) j)
  refine go_cpyq PM4 (L' := [some (.inr (.inr (some 1))), some (.inr (.inr (some 18)))]) (st' := []) (w' := (SH, (am_cp (u2 dt 1 0 (dt 18 0)) 19 2 0 0 192))) rfl rfl (s_cpy (n0 := 192) (n1 := 192) rfl rfl ⟨⟨by omega, by omega, by omega⟩, by omega, by omega, by decide⟩) ?_
  refine go_toq PM4 (k := 9) (pc' := 41) (L' := [some (.inr (.inr (some 1))), some (.inr (.inr (some 18)))]) (st' := [.inl 8, .inl 0, .inr (.inr (some 3)), .inl 0, .inr (.inr (some 20))]) (w' := (SH, (am_cp (u2 dt 1 0 (dt 18 0)) 19 2 0 0 192))) rfl ?_
  have hI31 : InvC (am_cp (am_cp (u2 dt 1 0 (dt 18 0)) 19 2 0 0 192) 20 3 0 0 8) := InvC_cp hI16 (fun _ _ => rfl) (fun _ _ => rfl) (fun _ => rfl)
  have hF32 : Fr [1, 2, 3, 4, 5, 6, 7, 8, 9, 10, 11, 12, 13, 14, 15, 16, 17] dt (am_cp (am_cp (u2 dt 1 0 (dt 18 0)) 19 2 0 0 192) 20 3 0 0 8) := Fr_cp hF17 (by decide)
  have w33 : (am_cp (am_cp (u2 dt 1 0 (dt 18 0)) 19 2 0 0 192) 20 3 0 0 8) 1 0 = (am_cp (u2 dt 1 0 (dt 18 0)) 19 2 0 0 192) 1 0 := rfl
  have w34 : (am_cp (am_cp (u2 dt 1 0 (dt 18 0)) 19 2 0 0 192) 20 3 0 0 8) 7 3 = (am_cp (u2 dt 1 0 (dt 18 0)) 19 2 0 0 192) 7 3 := rfl
  have w35 : (am_cp (am_cp (u2 dt 1 0 (dt 18 0)) 19 2 0 0 192) 20 3 0 0 8) 10 3 = (am_cp (u2 dt 1 0 (dt 18 0)) 19 2 0 0 192) 10 3 := rfl
  have w36 : (am_cp (am_cp (u2 dt 1 0 (dt 18 0)) 19 2 0 0 192) 20 3 0 0 8) 12 3 = (am_cp (u2 dt 1 0 (dt 18 0)) 19 2 0 0 192) 12 3 := rfl
  have w37 : (am_cp (am_cp (u2 dt 1 0 (dt 18 0)) 19 2 0 0 192) 20 3 0 0 8) 14 3 = (am_cp (u2 dt 1 0 (dt 18 0)) 19 2 0 0 192) 14 3 := rfl
  have w38 : (am_cp (am_cp (u2 dt 1 0 (dt 18 0)) 19 2 0 0 192) 20 3 0 0 8) 16 3 = (am_cp (u2 dt 1 0 (dt 18 0)) 19 2 0 0 192) 16 3 := rfl
  have w39 : (am_cp (am_cp (u2 dt 1 0 (dt 18 0)) 19 2 0 0 192) 20 3 0 0 8) 18 0 = (am_cp (u2 dt 1 0 (dt 18 0)) 19 2 0 0 192) 18 0 := rfl
  have w40 : (am_cp (am_cp (u2 dt 1 0 (dt 18 0)) 19 2 0 0 192) 20 3 0 0 8) 24 3 = (am_cp (u2 dt 1 0 (dt 18 0)) 19 2 0 0 192) 24 3 := rfl
  have w41 : (am_cp (am_cp (u2 dt 1 0 (dt 18 0)) 19 2 0 0 192) 20 3 0 0 8) 27 3 = (am_cp (u2 dt 1 0 (dt 18 0)) 19 2 0 0 192) 27 3 := rfl
  have w42 : (am_cp (am_cp (u2 dt 1 0 (dt 18 0)) 19 2 0 0 192) 20 3 0 0 8) 29 3 = (am_cp (u2 dt 1 0 (dt 18 0)) 19 2 0 0 192) 29 3 := rfl
  have w43 : (am_cp (am_cp (u2 dt 1 0 (dt 18 0)) 19 2 0 0 192) 20 3 0 0 8) 31 3 = (am_cp (u2 dt 1 0 (dt 18 0)) 19 2 0 0 192) 31 3 := rfl
  have w44 : (am_cp (am_cp (u2 dt 1 0 (dt 18 0)) 19 2 0 0 192) 20 3 0 0 8) 33 3 = (am_cp (u2 dt 1 0 (dt 18 0)) 19 2 0 0 192) 33 3 := rfl
  have T45 : ∀ j : Nat, j < 192 → (am_cp (am_cp (u2 dt 1 0 (dt 18 0)) 19 2 0 0 192) 20 3 0 0 8) 2 j = dt 19 j := fun j hj => (cp_ne (by decide)).trans (T30 j hj)
  have T46 : ∀ j : Nat, j < 8 → (am_cp (am_cp (u2 dt 1 0 (dt 18 0)) 19 2 0 0 192) 20 3 0 0 8) 3 j = dt 20 j := fun j hj => (cp_atv hj).trans (hF17 20 (by decide) j)
  refine go_cpyq PM4 (L' := [some (.inr (.inr (some 1))), some (.inr (.inr (some 18)))]) (st' := []) (w' := (SH, (am_cp (am_cp (u2 dt 1 0 (dt 18 0)) 19 2 0 0 192) 20 3 0 0 8))) rfl rfl (s_cpy (n0 := 8) (n1 := 8) rfl rfl ⟨⟨by omega, by omega, by omega⟩, by omega, by omega, by decide⟩) ?_
  refine go_toq PM4 (k := 9) (pc' := 59) (L' := [some (.inr (.inr (some 1))), some (.inr (.inr (some 18)))]) (st' := [.inl 256, .inl 0, .inr (.inr (some 4)), .inl 0, .inr (.inr (some 21))]) (w' := (SH, (am_cp (am_cp (u2 dt 1 0 (dt 18 0)) 19 2 0 0 192) 20 3 0 0 8))) rfl ?_
  have hI47 : InvC (am_cp (am_cp (am_cp (u2 dt 1 0 (dt 18 0)) 19 2 0 0 192) 20 3 0 0 8) 21 4 0 0 256) := InvC_cp hI31 (fun _ _ => rfl) (fun _ _ => rfl) (fun _ => rfl)
  have hF48 : Fr [1, 2, 3, 4, 5, 6, 7, 8, 9, 10, 11, 12, 13, 14, 15, 16, 17] dt (am_cp (am_cp (am_cp (u2 dt 1 0 (dt 18 0)) 19 2 0 0 192) 20 3 0 0 8) 21 4 0 0 256) := Fr_cp hF32 (by decide)
  have w49 : (am_cp (am_cp (am_cp (u2 dt 1 0 (dt 18 0)) 19 2 0 0 192) 20 3 0 0 8) 21 4 0 0 256) 1 0 = (am_cp (am_cp (u2 dt 1 0 (dt 18 0)) 19 2 0 0 192) 20 3 0 0 8) 1 0 := rfl
  have w50 : (am_cp (am_cp (am_cp (u2 dt 1 0 (dt 18 0)) 19 2 0 0 192) 20 3 0 0 8) 21 4 0 0 256) 7 3 = (am_cp (am_cp (u2 dt 1 0 (dt 18 0)) 19 2 0 0 192) 20 3 0 0 8) 7 3 := rfl
  have w51 : (am_cp (am_cp (am_cp (u2 dt 1 0 (dt 18 0)) 19 2 0 0 192) 20 3 0 0 8) 21 4 0 0 256) 10 3 = (am_cp (am_cp (u2 dt 1 0 (dt 18 0)) 19 2 0 0 192) 20 3 0 0 8) 10 3 := rfl
  have w52 : (am_cp (am_cp (am_cp (u2 dt 1 0 (dt 18 0)) 19 2 0 0 192) 20 3 0 0 8) 21 4 0 0 256) 12 3 = (am_cp (am_cp (u2 dt 1 0 (dt 18 0)) 19 2 0 0 192) 20 3 0 0 8) 12 3 := rfl
  have w53 : (am_cp (am_cp (am_cp (u2 dt 1 0 (dt 18 0)) 19 2 0 0 192) 20 3 0 0 8) 21 4 0 0 256) 14 3 = (am_cp (am_cp (u2 dt 1 0 (dt 18 0)) 19 2 0 0 192) 20 3 0 0 8) 14 3 := rfl
  have w54 : (am_cp (am_cp (am_cp (u2 dt 1 0 (dt 18 0)) 19 2 0 0 192) 20 3 0 0 8) 21 4 0 0 256) 16 3 = (am_cp (am_cp (u2 dt 1 0 (dt 18 0)) 19 2 0 0 192) 20 3 0 0 8) 16 3 := rfl
  have w55 : (am_cp (am_cp (am_cp (u2 dt 1 0 (dt 18 0)) 19 2 0 0 192) 20 3 0 0 8) 21 4 0 0 256) 18 0 = (am_cp (am_cp (u2 dt 1 0 (dt 18 0)) 19 2 0 0 192) 20 3 0 0 8) 18 0 := rfl
  have w56 : (am_cp (am_cp (am_cp (u2 dt 1 0 (dt 18 0)) 19 2 0 0 192) 20 3 0 0 8) 21 4 0 0 256) 24 3 = (am_cp (am_cp (u2 dt 1 0 (dt 18 0)) 19 2 0 0 192) 20 3 0 0 8) 24 3 := rfl
  have w57 : (am_cp (am_cp (am_cp (u2 dt 1 0 (dt 18 0)) 19 2 0 0 192) 20 3 0 0 8) 21 4 0 0 256) 27 3 = (am_cp (am_cp (u2 dt 1 0 (dt 18 0)) 19 2 0 0 192) 20 3 0 0 8) 27 3 := rfl
  have w58 : (am_cp (am_cp (am_cp (u2 dt 1 0 (dt 18 0)) 19 2 0 0 192) 20 3 0 0 8) 21 4 0 0 256) 29 3 = (am_cp (am_cp (u2 dt 1 0 (dt 18 0)) 19 2 0 0 192) 20 3 0 0 8) 29 3 := rfl
  have w59 : (am_cp (am_cp (am_cp (u2 dt 1 0 (dt 18 0)) 19 2 0 0 192) 20 3 0 0 8) 21 4 0 0 256) 31 3 = (am_cp (am_cp (u2 dt 1 0 (dt 18 0)) 19 2 0 0 192) 20 3 0 0 8) 31 3 := rfl
  have w60 : (am_cp (am_cp (am_cp (u2 dt 1 0 (dt 18 0)) 19 2 0 0 192) 20 3 0 0 8) 21 4 0 0 256) 33 3 = (am_cp (am_cp (u2 dt 1 0 (dt 18 0)) 19 2 0 0 192) 20 3 0 0 8) 33 3 := rfl
  have T61 : ∀ j : Nat, j < 192 → (am_cp (am_cp (am_cp (u2 dt 1 0 (dt 18 0)) 19 2 0 0 192) 20 3 0 0 8) 21 4 0 0 256) 2 j = dt 19 j := fun j hj => (cp_ne (by decide)).trans (T45 j hj)
  have T62 : ∀ j : Nat, j < 8 → (am_cp (am_cp (am_cp (u2 dt 1 0 (dt 18 0)) 19 2 0 0 192) 20 3 0 0 8) 21 4 0 0 256) 3 j = dt 20 j := fun j hj => (cp_ne (by decide)).trans (T46 j hj)
  refine go_cpyq PM4 (L' := [some (.inr (.inr (some 1))), some (.inr (.inr (some 18)))]) (st' := []) (w' := (SH, (am_cp (am_cp (am_cp (u2 dt 1 0 (dt 18 0)) 19 2 0 0 192) 20 3 0 0 8) 21 4 0 0 256))) rfl rfl (s_cpy (n0 := 256) (n1 := 256) rfl rfl ⟨⟨by omega, by omega, by omega⟩, by omega, by omega, by decide⟩) ?_
  refine go_toq PM4 (k := 9) (pc' := 77) (L' := [some (.inr (.inr (some 1))), some (.inr (.inr (some 18)))]) (st' := [.inl 4, .inl 0, .inr (.inr (some 5)), .inl 0, .inr (.inr (some 22))]) (w' := (SH, (am_cp (am_cp (am_cp (u2 dt 1 0 (dt 18 0)) 19 2 0 0 192) 20 3 0 0 8) 21 4 0 0 256))) rfl ?_
  have hI63 : InvC (am_cp (am_cp (am_cp (am_cp (u2 dt 1 0 (dt 18 0)) 19 2 0 0 192) 20 3 0 0 8) 21 4 0 0 256) 22 5 0 0 4) := InvC_cp hI47 (fun _ _ => rfl) (fun _ _ => rfl) (fun _ => rfl)
  have hF64 : Fr [1, 2, 3, 4, 5, 6, 7, 8, 9, 10, 11, 12, 13, 14, 15, 16, 17] dt (am_cp (am_cp (am_cp (am_cp (u2 dt 1 0 (dt 18 0)) 19 2 0 0 192) 20 3 0 0 8) 21 4 0 0 256) 22 5 0 0 4) := Fr_cp hF48 (by decide)
  have w65 : (am_cp (am_cp (am_cp (am_cp (u2 dt 1 0 (dt 18 0)) 19 2 0 0 192) 20 3 0 0 8) 21 4 0 0 256) 22 5 0 0 4) 1 0 = (am_cp (am_cp (am_cp (u2 dt 1 0 (dt 18 0)) 19 2 0 0 192) 20 3 0 0 8) 21 4 0 0 256) 1 0 := rfl
  have w66 : (am_cp (am_cp (am_cp (am_cp (u2 dt 1 0 (dt 18 0)) 19 2 0 0 192) 20 3 0 0 8) 21 4 0 0 256) 22 5 0 0 4) 7 3 = (am_cp (am_cp (am_cp (u2 dt 1 0 (dt 18 0)) 19 2 0 0 192) 20 3 0 0 8) 21 4 0 0 256) 7 3 := rfl
  have w67 : (am_cp (am_cp (am_cp (am_cp (u2 dt 1 0 (dt 18 0)) 19 2 0 0 192) 20 3 0 0 8) 21 4 0 0 256) 22 5 0 0 4) 10 3 = (am_cp (am_cp (am_cp (u2 dt 1 0 (dt 18 0)) 19 2 0 0 192) 20 3 0 0 8) 21 4 0 0 256) 10 3 := rfl
  have w68 : (am_cp (am_cp (am_cp (am_cp (u2 dt 1 0 (dt 18 0)) 19 2 0 0 192) 20 3 0 0 8) 21 4 0 0 256) 22 5 0 0 4) 12 3 = (am_cp (am_cp (am_cp (u2 dt 1 0 (dt 18 0)) 19 2 0 0 192) 20 3 0 0 8) 21 4 0 0 256) 12 3 := rfl
  have w69 : (am_cp (am_cp (am_cp (am_cp (u2 dt 1 0 (dt 18 0)) 19 2 0 0 192) 20 3 0 0 8) 21 4 0 0 256) 22 5 0 0 4) 14 3 = (am_cp (am_cp (am_cp (u2 dt 1 0 (dt 18 0)) 19 2 0 0 192) 20 3 0 0 8) 21 4 0 0 256) 14 3 := rfl
  have w70 : (am_cp (am_cp (am_cp (am_cp (u2 dt 1 0 (dt 18 0)) 19 2 0 0 192) 20 3 0 0 8) 21 4 0 0 256) 22 5 0 0 4) 16 3 = (am_cp (am_cp (am_cp (u2 dt 1 0 (dt 18 0)) 19 2 0 0 192) 20 3 0 0 8) 21 4 0 0 256) 16 3 := rfl
  have w71 : (am_cp (am_cp (am_cp (am_cp (u2 dt 1 0 (dt 18 0)) 19 2 0 0 192) 20 3 0 0 8) 21 4 0 0 256) 22 5 0 0 4) 18 0 = (am_cp (am_cp (am_cp (u2 dt 1 0 (dt 18 0)) 19 2 0 0 192) 20 3 0 0 8) 21 4 0 0 256) 18 0 := rfl
  have w72 : (am_cp (am_cp (am_cp (am_cp (u2 dt 1 0 (dt 18 0)) 19 2 0 0 192) 20 3 0 0 8) 21 4 0 0 256) 22 5 0 0 4) 24 3 = (am_cp (am_cp (am_cp (u2 dt 1 0 (dt 18 0)) 19 2 0 0 192) 20 3 0 0 8) 21 4 0 0 256) 24 3 := rfl
  have w73 : (am_cp (am_cp (am_cp (am_cp (u2 dt 1 0 (dt 18 0)) 19 2 0 0 192) 20 3 0 0 8) 21 4 0 0 256) 22 5 0 0 4) 27 3 = (am_cp (am_cp (am_cp (u2 dt 1 0 (dt 18 0)) 19 2 0 0 192) 20 3 0 0 8) 21 4 0 0 256) 27 3 := rfl
  have w74 : (am_cp (am_cp (am_cp (am_cp (u2 dt 1 0 (dt 18 0)) 19 2 0 0 192) 20 3 0 0 8) 21 4 0 0 256) 22 5 0 0 4) 29 3 = (am_cp (am_cp (am_cp (u2 dt 1 0 (dt 18 0)) 19 2 0 0 192) 20 3 0 0 8) 21 4 0 0 256) 29 3 := rfl
  have w75 : (am_cp (am_cp (am_cp (am_cp (u2 dt 1 0 (dt 18 0)) 19 2 0 0 192) 20 3 0 0 8) 21 4 0 0 256) 22 5 0 0 4) 31 3 = (am_cp (am_cp (am_cp (u2 dt 1 0 (dt 18 0)) 19 2 0 0 192) 20 3 0 0 8) 21 4 0 0 256) 31 3 := rfl
  have w76 : (am_cp (am_cp (am_cp (am_cp (u2 dt 1 0 (dt 18 0)) 19 2 0 0 192) 20 3 0 0 8) 21 4 0 0 256) 22 5 0 0 4) 33 3 = (am_cp (am_cp (am_cp (u2 dt 1 0 (dt 18 0)) 19 2 0 0 192) 20 3 0 0 8) 21 4 0 0 256) 33 3 := rfl
  have T77 : ∀ j : Nat, j < 192 → (am_cp (am_cp (am_cp (am_cp (u2 dt 1 0 (dt 18 0)) 19 2 0 0 192) 20 3 0 0 8) 21 4 0 0 256) 22 5 0 0 4) 2 j = dt 19 j := fun j hj => (cp_ne (by decide)).trans (T61 j hj)
  have T78 : ∀ j : Nat, j < 8 → (am_cp (am_cp (am_cp (am_cp (u2 dt 1 0 (dt 18 0)) 19 2 0 0 192) 20 3 0 0 8) 21 4 0 0 256) 22 5 0 0 4) 3 j = dt 20 j := fun j hj => (cp_ne (by decide)).trans (T62 j hj)
  refine go_cpyq PM4 (L' := [some (.inr (.inr (some 1))), some (.inr (.inr (some 18)))]) (st' := []) (w' := (SH, (am_cp (am_cp (am_cp (am_cp (u2 dt 1 0 (dt 18 0)) 19 2 0 0 192) 20 3 0 0 8) 21 4 0 0 256) 22 5 0 0 4))) rfl rfl (s_cpy (n0 := 4) (n1 := 4) rfl rfl ⟨⟨by omega, by omega, by omega⟩, by omega, by omega, by decide⟩) ?_
  refine go_toq PM4 (k := 9) (pc' := 95) (L' := [some (.inr (.inr (some 1))), some (.inr (.inr (some 18)))]) (st' := [.inl 2000, .inl 0, .inr (.inr (some 6)), .inl 0, .inr (.inr (some 23))]) (w' := (SH, (am_cp (am_cp (am_cp (am_cp (u2 dt 1 0 (dt 18 0)) 19 2 0 0 192) 20 3 0 0 8) 21 4 0 0 256) 22 5 0 0 4))) rfl ?_
  have hI79 : InvC (am_cp (am_cp (am_cp (am_cp (am_cp (u2 dt 1 0 (dt 18 0)) 19 2 0 0 192) 20 3 0 0 8) 21 4 0 0 256) 22 5 0 0 4) 23 6 0 0 2000) := InvC_cp hI63 (fun _ _ => rfl) (fun _ _ => rfl) (fun _ => rfl)
  have hF80 : Fr [1, 2, 3, 4, 5, 6, 7, 8, 9, 10, 11, 12, 13, 14, 15, 16, 17] dt (am_cp (am_cp (am_cp (am_cp (am_cp (u2 dt 1 0 (dt 18 0)) 19 2 0 0 192) 20 3 0 0 8) 21 4 0 0 256) 22 5 0 0 4) 23 6 0 0 2000) := Fr_cp hF64 (by decide)
  have w81 : (am_cp (am_cp (am_cp (am_cp (am_cp (u2 dt 1 0 (dt 18 0)) 19 2 0 0 192) 20 3 0 0 8) 21 4 0 0 256) 22 5 0 0 4) 23 6 0 0 2000) 1 0 = (am_cp (am_cp (am_cp (am_cp (u2 dt 1 0 (dt 18 0)) 19 2 0 0 192) 20 3 0 0 8) 21 4 0 0 256) 22 5 0 0 4) 1 0 := rfl
  have w82 : (am_cp (am_cp (am_cp (am_cp (am_cp (u2 dt 1 0 (dt 18 0)) 19 2 0 0 192) 20 3 0 0 8) 21 4 0 0 256) 22 5 0 0 4) 23 6 0 0 2000) 7 3 = (am_cp (am_cp (am_cp (am_cp (u2 dt 1 0 (dt 18 0)) 19 2 0 0 192) 20 3 0 0 8) 21 4 0 0 256) 22 5 0 0 4) 7 3 := rfl
  have w83 : (am_cp (am_cp (am_cp (am_cp (am_cp (u2 dt 1 0 (dt 18 0)) 19 2 0 0 192) 20 3 0 0 8) 21 4 0 0 256) 22 5 0 0 4) 23 6 0 0 2000) 10 3 = (am_cp (am_cp (am_cp (am_cp (u2 dt 1 0 (dt 18 0)) 19 2 0 0 192) 20 3 0 0 8) 21 4 0 0 256) 22 5 0 0 4) 10 3 := rfl
  have w84 : (am_cp (am_cp (am_cp (am_cp (am_cp (u2 dt 1 0 (dt 18 0)) 19 2 0 0 192) 20 3 0 0 8) 21 4 0 0 256) 22 5 0 0 4) 23 6 0 0 2000) 12 3 = (am_cp (am_cp (am_cp (am_cp (u2 dt 1 0 (dt 18 0)) 19 2 0 0 192) 20 3 0 0 8) 21 4 0 0 256) 22 5 0 0 4) 12 3 := rfl
  have w85 : (am_cp (am_cp (am_cp (am_cp (am_cp (u2 dt 1 0 (dt 18 0)) 19 2 0 0 192) 20 3 0 0 8) 21 4 0 0 256) 22 5 0 0 4) 23 6 0 0 2000) 14 3 = (am_cp (am_cp (am_cp (am_cp (u2 dt 1 0 (dt 18 0)) 19 2 0 0 192) 20 3 0 0 8) 21 4 0 0 256) 22 5 0 0 4) 14 3 := rfl
  have w86 : (am_cp (am_cp (am_cp (am_cp (am_cp (u2 dt 1 0 (dt 18 0)) 19 2 0 0 192) 20 3 0 0 8) 21 4 0 0 256) 22 5 0 0 4) 23 6 0 0 2000) 16 3 = (am_cp (am_cp (am_cp (am_cp (u2 dt 1 0 (dt 18 0)) 19 2 0 0 192) 20 3 0 0 8) 21 4 0 0 256) 22 5 0 0 4) 16 3 := rfl
  have w87 : (am_cp (am_cp (am_cp (am_cp (am_cp (u2 dt 1 0 (dt 18 0)) 19 2 0 0 192) 20 3 0 0 8) 21 4 0 0 256) 22 5 0 0 4) 23 6 0 0 2000) 18 0 = (am_cp (am_cp (am_cp (am_cp (u2 dt 1 0 (dt 18 0)) 19 2 0 0 192) 20 3 0 0 8) 21 4 0 0 256) 22 5 0 0 4) 18 0 := rfl
  have w88 : (am_cp (am_cp (am_cp (am_cp (am_cp (u2 dt 1 0 (dt 18 0)) 19 2 0 0 192) 20 3 0 0 8) 21 4 0 0 256) 22 5 0 0 4) 23 6 0 0 2000) 24 3 = (am_cp (am_cp (am_cp (am_cp (u2 dt 1 0 (dt 18 0)) 19 2 0 0 192) 20 3 0 0 8) 21 4 0 0 256) 22 5 0 0 4) 24 3 := rfl
  have w89 : (am_cp (am_cp (am_cp (am_cp (am_cp (u2 dt 1 0 (dt 18 0)) 19 2 0 0 192) 20 3 0 0 8) 21 4 0 0 256) 22 5 0 0 4) 23 6 0 0 2000) 27 3 = (am_cp (am_cp (am_cp (am_cp (u2 dt 1 0 (dt 18 0)) 19 2 0 0 192) 20 3 0 0 8) 21 4 0 0 256) 22 5 0 0 4) 27 3 := rfl
  have w90 : (am_cp (am_cp (am_cp (am_cp (am_cp (u2 dt 1 0 (dt 18 0)) 19 2 0 0 192) 20 3 0 0 8) 21 4 0 0 256) 22 5 0 0 4) 23 6 0 0 2000) 29 3 = (am_cp (am_cp (am_cp (am_cp (u2 dt 1 0 (dt 18 0)) 19 2 0 0 192) 20 3 0 0 8) 21 4 0 0 256) 22 5 0 0 4) 29 3 := rfl
  have w91 : (am_cp (am_cp (am_cp (am_cp (am_cp (u2 dt 1 0 (dt 18 0)) 19 2 0 0 192) 20 3 0 0 8) 21 4 0 0 256) 22 5 0 0 4) 23 6 0 0 2000) 31 3 = (am_cp (am_cp (am_cp (am_cp (u2 dt 1 0 (dt 18 0)) 19 2 0 0 192) 20 3 0 0 8) 21 4 0 0 256) 22 5 0 0 4) 31 3 := rfl
  have w92 : (am_cp (am_cp (am_cp (am_cp (am_cp (u2 dt 1 0 (dt 18 0)) 19 2 0 0 192) 20 3 0 0 8) 21 4 0 0 256) 22 5 0 0 4) 23 6 0 0 2000) 33 3 = (am_cp (am_cp (am_cp (am_cp (u2 dt 1 0 (dt 18 0)) 19 2 0 0 192) 20 3 0 0 8) 21 4 0 0 256) 22 5 0 0 4) 33 3 := rfl
  have T93 : ∀ j : Nat, j < 192 → (am_cp (am_cp (am_cp (am_cp (am_cp (u2 dt 1 0 (dt 18 0)) 19 2 0 0 192) 20 3 0 0 8) 21 4 0 0 256) 22 5 0 0 4) 23 6 0 0 2000) 2 j = dt 19 j := fun j hj => (cp_ne (by decide)).trans (T77 j hj)
  have T94 : ∀ j : Nat, j < 8 → (am_cp (am_cp (am_cp (am_cp (am_cp (u2 dt 1 0 (dt 18 0)) 19 2 0 0 192) 20 3 0 0 8) 21 4 0 0 256) 22 5 0 0 4) 23 6 0 0 2000) 3 j = dt 20 j := fun j hj => (cp_ne (by decide)).trans (T78 j hj)
  refine go_cpyq PM4 (L' := [some (.inr (.inr (some 1))), some (.inr (.inr (some 18)))]) (st' := []) (w' := (SH, (am_cp (am_cp (am_cp (am_cp (am_cp (u2 dt 1 0 (dt 18 0)) 19 2 0 0 192) 20 3 0 0 8) 21 4 0 0 256) 22 5 0 0 4) 23 6 0 0 2000))) rfl rfl (s_cpy (n0 := 2000) (n1 := 2000) rfl rfl ⟨⟨by omega, by omega, by omega⟩, by omega, by omega, by decide⟩) ?_
  refine go_toq PM4 (k := 9) (pc' := 113) (L' := [some (.inr (.inr (some 1))), some (.inr (.inr (some 18)))]) (st' := [.inl 132, .inl 0, .inr (.inr (some 9)), .inl 0, .inr (.inr (some 26))]) (w' := (SH, (am_cp (am_cp (am_cp (am_cp (am_cp (u2 dt 1 0 (dt 18 0)) 19 2 0 0 192) 20 3 0 0 8) 21 4 0 0 256) 22 5 0 0 4) 23 6 0 0 2000))) rfl ?_
  have hI95 : InvC (am_cp (am_cp (am_cp (am_cp (am_cp (am_cp (u2 dt 1 0 (dt 18 0)) 19 2 0 0 192) 20 3 0 0 8) 21 4 0 0 256) 22 5 0 0 4) 23 6 0 0 2000) 26 9 0 0 132) := InvC_cp hI79 (fun _ _ => rfl) (fun _ _ => rfl) (fun _ => rfl)
  have hF96 : Fr [1, 2, 3, 4, 5, 6, 7, 8, 9, 10, 11, 12, 13, 14, 15, 16, 17] dt (am_cp (am_cp (am_cp (am_cp (am_cp (am_cp (u2 dt 1 0 (dt 18 0)) 19 2 0 0 192) 20 3 0 0 8) 21 4 0 0 256) 22 5 0 0 4) 23 6 0 0 2000) 26 9 0 0 132) := Fr_cp hF80 (by decide)
  have w97 : (am_cp (am_cp (am_cp (am_cp (am_cp (am_cp (u2 dt 1 0 (dt 18 0)) 19 2 0 0 192) 20 3 0 0 8) 21 4 0 0 256) 22 5 0 0 4) 23 6 0 0 2000) 26 9 0 0 132) 1 0 = (am_cp (am_cp (am_cp (am_cp (am_cp (u2 dt 1 0 (dt 18 0)) 19 2 0 0 192) 20 3 0 0 8) 21 4 0 0 256) 22 5 0 0 4) 23 6 0 0 2000) 1 0 := rfl
  have w98 : (am_cp (am_cp (am_cp (am_cp (am_cp (am_cp (u2 dt 1 0 (dt 18 0)) 19 2 0 0 192) 20 3 0 0 8) 21 4 0 0 256) 22 5 0 0 4) 23 6 0 0 2000) 26 9 0 0 132) 7 3 = (am_cp (am_cp (am_cp (am_cp (am_cp (u2 dt 1 0 (dt 18 0)) 19 2 0 0 192) 20 3 0 0 8) 21 4 0 0 256) 22 5 0 0 4) 23 6 0 0 2000) 7 3 := rfl
  have w99 : (am_cp (am_cp (am_cp (am_cp (am_cp (am_cp (u2 dt 1 0 (dt 18 0)) 19 2 0 0 192) 20 3 0 0 8) 21 4 0 0 256) 22 5 0 0 4) 23 6 0 0 2000) 26 9 0 0 132) 10 3 = (am_cp (am_cp (am_cp (am_cp (am_cp (u2 dt 1 0 (dt 18 0)) 19 2 0 0 192) 20 3 0 0 8) 21 4 0 0 256) 22 5 0 0 4) 23 6 0 0 2000) 10 3 := rfl
  have w100 : (am_cp (am_cp (am_cp (am_cp (am_cp (am_cp (u2 dt 1 0 (dt 18 0)) 19 2 0 0 192) 20 3 0 0 8) 21 4 0 0 256) 22 5 0 0 4) 23 6 0 0 2000) 26 9 0 0 132) 12 3 = (am_cp (am_cp (am_cp (am_cp (am_cp (u2 dt 1 0 (dt 18 0)) 19 2 0 0 192) 20 3 0 0 8) 21 4 0 0 256) 22 5 0 0 4) 23 6 0 0 2000) 12 3 := rfl
  have w101 : (am_cp (am_cp (am_cp (am_cp (am_cp (am_cp (u2 dt 1 0 (dt 18 0)) 19 2 0 0 192) 20 3 0 0 8) 21 4 0 0 256) 22 5 0 0 4) 23 6 0 0 2000) 26 9 0 0 132) 14 3 = (am_cp (am_cp (am_cp (am_cp (am_cp (u2 dt 1 0 (dt 18 0)) 19 2 0 0 192) 20 3 0 0 8) 21 4 0 0 256) 22 5 0 0 4) 23 6 0 0 2000) 14 3 := rfl
  have w102 : (am_cp (am_cp (am_cp (am_cp (am_cp (am_cp (u2 dt 1 0 (dt 18 0)) 19 2 0 0 192) 20 3 0 0 8) 21 4 0 0 256) 22 5 0 0 4) 23 6 0 0 2000) 26 9 0 0 132) 16 3 = (am_cp (am_cp (am_cp (am_cp (am_cp (u2 dt 1 0 (dt 18 0)) 19 2 0 0 192) 20 3 0 0 8) 21 4 0 0 256) 22 5 0 0 4) 23 6 0 0 2000) 16 3 := rfl
  have w103 : (am_cp (am_cp (am_cp (am_cp (am_cp (am_cp (u2 dt 1 0 (dt 18 0)) 19 2 0 0 192) 20 3 0 0 8) 21 4 0 0 256) 22 5 0 0 4) 23 6 0 0 2000) 26 9 0 0 132) 18 0 = (am_cp (am_cp (am_cp (am_cp (am_cp (u2 dt 1 0 (dt 18 0)) 19 2 0 0 192) 20 3 0 0 8) 21 4 0 0 256) 22 5 0 0 4) 23 6 0 0 2000) 18 0 := rfl
  have w104 : (am_cp (am_cp (am_cp (am_cp (am_cp (am_cp (u2 dt 1 0 (dt 18 0)) 19 2 0 0 192) 20 3 0 0 8) 21 4 0 0 256) 22 5 0 0 4) 23 6 0 0 2000) 26 9 0 0 132) 24 3 = (am_cp (am_cp (am_cp (am_cp (am_cp (u2 dt 1 0 (dt 18 0)) 19 2 0 0 192) 20 3 0 0 8) 21 4 0 0 256) 22 5 0 0 4) 23 6 0 0 2000) 24 3 := rfl
  have w105 : (am_cp (am_cp (am_cp (am_cp (am_cp (am_cp (u2 dt 1 0 (dt 18 0)) 19 2 0 0 192) 20 3 0 0 8) 21 4 0 0 256) 22 5 0 0 4) 23 6 0 0 2000) 26 9 0 0 132) 27 3 = (am_cp (am_cp (am_cp (am_cp (am_cp (u2 dt 1 0 (dt 18 0)) 19 2 0 0 192) 20 3 0 0 8) 21 4 0 0 256) 22 5 0 0 4) 23 6 0 0 2000) 27 3 := rfl
  have w106 : (am_cp (am_cp (am_cp (am_cp (am_cp (am_cp (u2 dt 1 0 (dt 18 0)) 19 2 0 0 192) 20 3 0 0 8) 21 4 0 0 256) 22 5 0 0 4) 23 6 0 0 2000) 26 9 0 0 132) 29 3 = (am_cp (am_cp (am_cp (am_cp (am_cp (u2 dt 1 0 (dt 18 0)) 19 2 0 0 192) 20 3 0 0 8) 21 4 0 0 256) 22 5 0 0 4) 23 6 0 0 2000) 29 3 := rfl
  have w107 : (am_cp (am_cp (am_cp (am_cp (am_cp (am_cp (u2 dt 1 0 (dt 18 0)) 19 2 0 0 192) 20 3 0 0 8) 21 4 0 0 256) 22 5 0 0 4) 23 6 0 0 2000) 26 9 0 0 132) 31 3 = (am_cp (am_cp (am_cp (am_cp (am_cp (u2 dt 1 0 (dt 18 0)) 19 2 0 0 192) 20 3 0 0 8) 21 4 0 0 256) 22 5 0 0 4) 23 6 0 0 2000) 31 3 := rfl
  have w108 : (am_cp (am_cp (am_cp (am_cp (am_cp (am_cp (u2 dt 1 0 (dt 18 0)) 19 2 0 0 192) 20 3 0 0 8) 21 4 0 0 256) 22 5 0 0 4) 23 6 0 0 2000) 26 9 0 0 132) 33 3 = (am_cp (am_cp (am_cp (am_cp (am_cp (u2 dt 1 0 (dt 18 0)) 19 2 0 0 192) 20 3 0 0 8) 21 4 0 0 256) 22 5 0 0 4) 23 6 0 0 2000) 33 3 := rfl
  have T109 : ∀ j : Nat, j < 192 → (am_cp (am_cp (am_cp (am_cp (am_cp (am_cp (u2 dt 1 0 (dt 18 0)) 19 2 0 0 192) 20 3 0 0 8) 21 4 0 0 256) 22 5 0 0 4) 23 6 0 0 2000) 26 9 0 0 132) 2 j = dt 19 j := fun j hj => (cp_ne (by decide)).trans (T93 j hj)
  have T110 : ∀ j : Nat, j < 8 → (am_cp (am_cp (am_cp (am_cp (am_cp (am_cp (u2 dt 1 0 (dt 18 0)) 19 2 0 0 192) 20 3 0 0 8) 21 4 0 0 256) 22 5 0 0 4) 23 6 0 0 2000) 26 9 0 0 132) 3 j = dt 20 j := fun j hj => (cp_ne (by decide)).trans (T94 j hj)
  have T111 : ∀ j : Nat, j < 132 → (am_cp (am_cp (am_cp (am_cp (am_cp (am_cp (u2 dt 1 0 (dt 18 0)) 19 2 0 0 192) 20 3 0 0 8) 21 4 0 0 256) 22 5 0 0 4) 23 6 0 0 2000) 26 9 0 0 132) 9 j = dt 26 j := fun j hj => (cp_atv hj).trans (hF80 26 (by decide) j)
  refine go_cpyq PM4 (L' := [some (.inr (.inr (some 1))), some (.inr (.inr (some 18)))]) (st' := []) (w' := (SH, (am_cp (am_cp (am_cp (am_cp (am_cp (am_cp (u2 dt 1 0 (dt 18 0)) 19 2 0 0 192) 20 3 0 0 8) 21 4 0 0 256) 22 5 0 0 4) 23 6 0 0 2000) 26 9 0 0 132))) rfl rfl (s_cpy (n0 := 132) (n1 := 132) rfl rfl ⟨⟨by omega, by omega, by omega⟩, by omega, by omega, by decide⟩) ?_
  refine go_toq PM4 (k := 4) (pc' := 124) (L' := [some (.inr (.inr (some 1))), some (.inr (.inr (some 18)))]) (st' := [.inr (.inr (some 24)), .inr (.inr (some 7))]) (w' := (SH, (am_cp (am_cp (am_cp (am_cp (am_cp (am_cp (u2 dt 1 0 (dt 18 0)) 19 2 0 0 192) 20 3 0 0 8) 21 4 0 0 256) 22 5 0 0 4) 23 6 0 0 2000) 26 9 0 0 132))) rfl ?_
  refine go_callq PM4 PM42 (Q' := _) rfl rfl rfl rfl (sp_X2_copyFrom_7f L xs sio (d + 0) (am_cp (am_cp (am_cp (am_cp (am_cp (am_cp (u2 dt 1 0 (dt 18 0)) 19 2 0 0 192) 20 3 0 0 8) 21 4 0 0 256) 22 5 0 0 4) 23 6 0 0 2000) 26 9 0 0 132) hI95   ) ?_
  rintro _ _ ⟨dt113, rfl, hI114, hF115, h112⟩
  refine ⟨rfl, ?_⟩
  have hF116 : Fr [1, 2, 3, 4, 5, 6, 7, 8, 9, 10, 11, 12, 13, 14, 15, 16, 17] dt dt113 := Fr_tr hF96 hF115 (by decide)
  have w117 : dt113 1 0 = (am_cp (am_cp (am_cp (am_cp (am_cp (am_cp (u2 dt 1 0 (dt 18 0)) 19 2 0 0 192) 20 3 0 0 8) 21 4 0 0 256) 22 5 0 0 4) 23 6 0 0 2000) 26 9 0 0 132) 1 0 := hF115 1 (by decide) 0
  have w118 : dt113 10 3 = (am_cp (am_cp (am_cp (am_cp (am_cp (am_cp (u2 dt 1 0 (dt 18 0)) 19 2 0 0 192) 20 3 0 0 8) 21 4 0 0 256) 22 5 0 0 4) 23 6 0 0 2000) 26 9 0 0 132) 10 3 := hF115 10 (by decide) 3
  have w119 : dt113 12 3 = (am_cp (am_cp (am_cp (am_cp (am_cp (am_cp (u2 dt 1 0 (dt 18 0)) 19 2 0 0 192) 20 3 0 0 8) 21 4 0 0 256) 22 5 0 0 4) 23 6 0 0 2000) 26 9 0 0 132) 12 3 := hF115 12 (by decide) 3
  have w120 : dt113 14 3 = (am_cp (am_cp (am_cp (am_cp (am_cp (am_cp (u2 dt 1 0 (dt 18 0)) 19 2 0 0 192) 20 3 0 0 8) 21 4 0 0 256) 22 5 0 0 4) 23 6 0 0 2000) 26 9 0 0 132) 14 3 := hF115 14 (by decide) 3
  have w121 : dt113 16 3 = (am_cp (am_cp (am_cp (am_cp (am_cp (am_cp (u2 dt 1 0 (dt 18 0)) 19 2 0 0 192) 20 3 0 0 8) 21 4 0 0 256) 22 5 0 0 4) 23 6 0 0 2000) 26 9 0 0 132) 16 3 := hF115 16 (by decide) 3
  have w122 : dt113 18 0 = (am_cp (am_cp (am_cp (am_cp (am_cp (am_cp (u2 dt 1 0 (dt 18 0)) 19 2 0 0 192) 20 3 0 0 8) 21 4 0 0 256) 22 5 0 0 4) 23 6 0 0 2000) 26 9 0 0 132) 18 0 := hF115 18 (by decide) 0
  have w123 : dt113 24 3 = (am_cp (am_cp (am_cp (am_cp (am_cp (am_cp (u2 dt 1 0 (dt 18 0)) 19 2 0 0 192) 20 3 0 0 8) 21 4 0 0 256) 22 5 0 0 4) 23 6 0 0 2000) 26 9 0 0 132) 24 3 := hF115 24 (by decide) 3
  have w124 : dt113 27 3 = (am_cp (am_cp (am_cp (am_cp (am_cp (am_cp (u2 dt 1 0 (dt 18 0)) 19 2 0 0 192) 20 3 0 0 8) 21 4 0 0 256) 22 5 0 0 4) 23 6 0 0 2000) 26 9 0 0 132) 27 3 := hF115 27 (by decide) 3
  have w125 : dt113 29 3 = (am_cp (am_cp (am_cp (am_cp (am_cp (am_cp (u2 dt 1 0 (dt 18 0)) 19 2 0 0 192) 20 3 0 0 8) 21 4 0 0 256) 22 5 0 0 4) 23 6 0 0 2000) 26 9 0 0 132) 29 3 := hF115 29 (by decide) 3
  have w126 : dt113 31 3 = (am_cp (am_cp (am_cp (am_cp (am_cp (am_cp (u2 dt 1 0 (dt 18 0)) 19 2 0 0 192) 20 3 0 0 8) 21 4 0 0 256) 22 5 0 0 4) 23 6 0 0 2000) 26 9 0 0 132) 31 3 := hF115 31 (by decide) 3
  have w127 : dt113 33 3 = (am_cp (am_cp (am_cp (am_cp (am_cp (am_cp (u2 dt 1 0 (dt 18 0)) 19 2 0 0 192) 20 3 0 0 8) 21 4 0 0 256) 22 5 0 0 4) 23 6 0 0 2000) 26 9 0 0 132) 33 3 := hF115 33 (by decide) 3
  rcases h112 with ⟨rfl, h112⟩
  obtain ⟨h112_0, h112_1⟩ := h112
  have T128 : ∀ j : Nat, j < 192 → dt113 2 j = dt 19 j := fun j hj => (hF115 2 (by decide) j).trans (T109 j hj)
  have T129 : ∀ j : Nat, j < 8 → dt113 3 j = dt 20 j := fun j hj => (hF115 3 (by decide) j).trans (T110 j hj)
  have T130 : ∀ j : Nat, j < 60 → dt113 8 j = dt 25 j := fun j hj => (h112_1 j hj).trans (hF96 25 (by decide) j)
  have T131 : ∀ j : Nat, j < 132 → dt113 9 j = dt 26 j := fun j hj => (hF115 9 (by decide) j).trans (T111 j hj)
  refine go_toq PM4 (k := 4) (pc' := 135) (L' := [some (.inr (.inr (some 1))), some (.inr (.inr (some 18)))]) (st' := [.inr (.inr (some 27)), .inr (.inr (some 10))]) (w' := (SH, dt113)) rfl ?_
  refine go_callq PM4 PM42 (Q' := _) rfl rfl rfl rfl (sp_X2_copyFrom_10 L xs sio (d + 0) dt113 hI114   ) ?_
  rintro _ _ ⟨dt133, rfl, hI134, hF135, h132⟩
  refine ⟨rfl, ?_⟩
  have hF136 : Fr [1, 2, 3, 4, 5, 6, 7, 8, 9, 10, 11, 12, 13, 14, 15, 16, 17] dt dt133 := Fr_tr hF116 hF135 (by decide)
  have w137 : dt133 1 0 = dt113 1 0 := hF135 1 (by decide) 0
  have w138 : dt133 7 3 = dt113 7 3 := hF135 7 (by decide) 3
  have w139 : dt133 12 3 = dt113 12 3 := hF135 12 (by decide) 3
  have w140 : dt133 14 3 = dt113 14 3 := hF135 14 (by decide) 3
  have w141 : dt133 16 3 = dt113 16 3 := hF135 16 (by decide) 3
  have w142 : dt133 18 0 = dt113 18 0 := hF135 18 (by decide) 0
  have w143 : dt133 24 3 = dt113 24 3 := hF135 24 (by decide) 3
  have w144 : dt133 27 3 = dt113 27 3 := hF135 27 (by decide) 3
  have w145 : dt133 29 3 = dt113 29 3 := hF135 29 (by decide) 3
  have w146 : dt133 31 3 = dt113 31 3 := hF135 31 (by decide) 3
  have w147 : dt133 33 3 = dt113 33 3 := hF135 33 (by decide) 3
  rcases h132 with ⟨rfl, h132⟩
  have T148 : ∀ j : Nat, j < 192 → dt133 2 j = dt 19 j := fun j hj => (hF135 2 (by decide) j).trans (T128 j hj)
  have T149 : ∀ j : Nat, j < 8 → dt133 3 j = dt 20 j := fun j hj => (hF135 3 (by decide) j).trans (T129 j hj)
  have T150 : ∀ j : Nat, j < 60 → dt133 8 j = dt 25 j := fun j hj => (hF135 8 (by decide) j).trans (T130 j hj)
  have T151 : ∀ j : Nat, j < 132 → dt133 9 j = dt 26 j := fun j hj => (hF135 9 (by decide) j).trans (T131 j hj)
  refine go_toq PM4 (k := 4) (pc' := 146) (L' := [some (.inr (.inr (some 1))), some (.inr (.inr (some 18)))]) (st' := [.inr (.inr (some 29)), .inr (.inr (some 12))]) (w' := (SH, dt133)) rfl ?_
  refine go_callq PM4 PM42 (Q' := _) rfl rfl rfl rfl (sp_X2_copyFrom_12 L xs sio (d + 0) dt133 hI134   ) ?_
  rintro _ _ ⟨dt153, rfl, hI154, hF155, h152⟩
  refine ⟨rfl, ?_⟩
  have hF156 : Fr [1, 2, 3, 4, 5, 6, 7, 8, 9, 10, 11, 12, 13, 14, 15, 16, 17] dt dt153 := Fr_tr hF136 hF155 (by decide)
  have w157 : dt153 1 0 = dt133 1 0 := hF155 1 (by decide) 0
  have w158 : dt153 7 3 = dt133 7 3 := hF155 7 (by decide) 3
  have w159 : dt153 10 3 = dt133 10 3 := hF155 10 (by decide) 3
  have w160 : dt153 14 3 = dt133 14 3 := hF155 14 (by decide) 3
  have w161 : dt153 16 3 = dt133 16 3 := hF155 16 (by decide) 3
  have w162 : dt153 18 0 = dt133 18 0 := hF155 18 (by decide) 0
  have w163 : dt153 24 3 = dt133 24 3 := hF155 24 (by decide) 3
  have w164 : dt153 27 3 = dt133 27 3 := hF155 27 (by decide) 3
  have w165 : dt153 29 3 = dt133 29 3 := hF155 29 (by decide) 3
  have w166 : dt153 31 3 = dt133 31 3 := hF155 31 (by decide) 3
  have w167 : dt153 33 3 = dt133 33 3 := hF155 33 (by decide) 3
  rcases h152 with ⟨rfl, h152⟩
  have T168 : ∀ j : Nat, j < 192 → dt153 2 j = dt 19 j := fun j hj => (hF155 2 (by decide) j).trans (T148 j hj)
  have T169 : ∀ j : Nat, j < 8 → dt153 3 j = dt 20 j := fun j hj => (hF155 3 (by decide) j).trans (T149 j hj)
  have T170 : ∀ j : Nat, j < 60 → dt153 8 j = dt 25 j := fun j hj => (hF155 8 (by decide) j).trans (T150 j hj)
  have T171 : ∀ j : Nat, j < 132 → dt153 9 j = dt 26 j := fun j hj => (hF155 9 (by decide) j).trans (T151 j hj)
  refine go_toq PM4 (k := 4) (pc' := 157) (L' := [some (.inr (.inr (some 1))), some (.inr (.inr (some 18)))]) (st' := [.inr (.inr (some 31)), .inr (.inr (some 14))]) (w' := (SH, dt153)) rfl ?_
  refine go_callq PM4 PM42 (Q' := _) rfl rfl rfl rfl (sp_X2_copyFrom_14 L xs sio (d + 0) dt153 hI154   ) ?_
  rintro _ _ ⟨dt173, rfl, hI174, hF175, h172⟩
  refine ⟨rfl, ?_⟩
  have hF176 : Fr [1, 2, 3, 4, 5, 6, 7, 8, 9, 10, 11, 12, 13, 14, 15, 16, 17] dt dt173 := Fr_tr hF156 hF175 (by decide)
  have w177 : dt173 1 0 = dt153 1 0 := hF175 1 (by decide) 0
  have w178 : dt173 7 3 = dt153 7 3 := hF175 7 (by decide) 3
  have w179 : dt173 10 3 = dt153 10 3 := hF175 10 (by decide) 3
  have w180 : dt173 12 3 = dt153 12 3 := hF175 12 (by decide) 3
  have w181 : dt173 16 3 = dt153 16 3 := hF175 16 (by decide) 3
  have w182 : dt173 18 0 = dt153 18 0 := hF175 18 (by decide) 0
  have w183 : dt173 24 3 = dt153 24 3 := hF175 24 (by decide) 3
  have w184 : dt173 27 3 = dt153 27 3 := hF175 27 (by decide) 3
  have w185 : dt173 29 3 = dt153 29 3 := hF175 29 (by decide) 3
  have w186 : dt173 31 3 = dt153 31 3 := hF175 31 (by decide) 3
  have w187 : dt173 33 3 = dt153 33 3 := hF175 33 (by decide) 3
  rcases h172 with ⟨rfl, h172⟩
  have T188 : ∀ j : Nat, j < 192 → dt173 2 j = dt 19 j := fun j hj => (hF175 2 (by decide) j).trans (T168 j hj)
  have T189 : ∀ j : Nat, j < 8 → dt173 3 j = dt 20 j := fun j hj => (hF175 3 (by decide) j).trans (T169 j hj)
  have T190 : ∀ j : Nat, j < 60 → dt173 8 j = dt 25 j := fun j hj => (hF175 8 (by decide) j).trans (T170 j hj)
  have T191 : ∀ j : Nat, j < 132 → dt173 9 j = dt 26 j := fun j hj => (hF175 9 (by decide) j).trans (T171 j hj)
  refine go_toq PM4 (k := 4) (pc' := 168) (L' := [some (.inr (.inr (some 1))), some (.inr (.inr (some 18)))]) (st' := [.inr (.inr (some 33)), .inr (.inr (some 16))]) (w' := (SH, dt173)) rfl ?_
  refine go_callq PM4 PM42 (Q' := _) rfl rfl rfl rfl (sp_X2_copyFrom_16 L xs sio (d + 0) dt173 hI174   ) ?_
  rintro _ _ ⟨dt193, rfl, hI194, hF195, h192⟩
  refine ⟨rfl, ?_⟩
  have hF196 : Fr [1, 2, 3, 4, 5, 6, 7, 8, 9, 10, 11, 12, 13, 14, 15, 16, 17] dt dt193 := Fr_tr hF176 hF195 (by decide)
  have w197 : dt193 1 0 = dt173 1 0 := hF195 1 (by decide) 0
  have w198 : dt193 7 3 = dt173 7 3 := hF195 7 (by decide) 3
  have w199 : dt193 10 3 = dt173 10 3 := hF195 10 (by decide) 3
  have w200 : dt193 12 3 = dt173 12 3 := hF195 12 (by decide) 3
  have w201 : dt193 14 3 = dt173 14 3 := hF195 14 (by decide) 3
  have w202 : dt193 18 0 = dt173 18 0 := hF195 18 (by decide) 0
  have w203 : dt193 24 3 = dt173 24 3 := hF195 24 (by decide) 3
  have w204 : dt193 27 3 = dt173 27 3 := hF195 27 (by decide) 3
  have w205 : dt193 29 3 = dt173 29 3 := hF195 29 (by decide) 3
  have w206 : dt193 31 3 = dt173 31 3 := hF195 31 (by decide) 3
  have w207 : dt193 33 3 = dt173 33 3 := hF195 33 (by decide) 3
  rcases h192 with ⟨rfl, h192⟩
  have T208 : ∀ j : Nat, j < 192 → dt193 2 j = dt 19 j := fun j hj => (hF195 2 (by decide) j).trans (T188 j hj)
  have T209 : ∀ j : Nat, j < 8 → dt193 3 j = dt 20 j := fun j hj => (hF195 3 (by decide) j).trans (T189 j hj)
  have T210 : ∀ j : Nat, j < 60 → dt193 8 j = dt 25 j := fun j hj => (hF195 8 (by decide) j).trans (T190 j hj)
  have T211 : ∀ j : Nat, j < 132 → dt193 9 j = dt 26 j := fun j hj => (hF195 9 (by decide) j).trans (T191 j hj)
  refine go_retq PM4 (k := 0) (r := none) (w1 := (SH, dt193)) rfl ?_
  exact ⟨dt193, rfl, hI194, hF196, ⟨rfl, ⟨by first | exact True.intro | with_reducible assumption | rfl | omega | trivial, by first | exact True.intro | with_reducible assumption | rfl | omega | trivial, by first | exact True.intro | with_reducible assumption | rfl | omega | trivial, by first | exact True.intro | with_reducible assumption | rfl | omega | trivial, by first | exact True.intro | with_reducible assumption | rfl | omega | trivial, by first | exact True.intro | with_reducible assumption | rfl | omega | trivial, by exact T208, by exact T209, by exact T210, by exact T211⟩⟩⟩
theorem sp_X0_copyFrom_18q (L : Nat) (xs : Nat → Int32) (sio : Option Nat) (d : Nat) (dt : Nat → Nat → Int) (hI : InvC dt)    : GO (am_XX L xs sio) (d + 2) 4 0 [some (.inr (.inr (some 18))), some (.inr (.inr (some 1)))] [] (SH, dt) (fun r w2 => ∃ dt2 : Nat → Nat → Int, w2 = (SH, dt2) ∧ InvC dt2 ∧ Fr [18, 19, 20, 21, 22, 23, 24, 25, 26, 27, 28, 29, 30, 31, 32, 33, 34] dt dt2 ∧ ((r = none ∧ (dt2 18 0 = dt 1 0) ∧ (dt2 24 3 = dt 7 3) ∧ (dt2 27 3 = dt 10 3) ∧ (dt2 29 3 = dt 12 3) ∧ (dt2 31 3 = dt 14 3) ∧ (dt2 33 3 = dt 16 3) ∧ (∀ j : Nat, j < 192 → dt2 19 j = dt 2 j) ∧ (∀ j : Nat, j < 8 → dt2 20 j = dt 3 j) ∧ (∀ j : Nat, j < 60 → dt2 25 j = dt 8 j) ∧ (∀ j : Nat, j < 132 → dt2 26 j = dt 9 j)))) := by
  have hF : Fr [18, 19, 20, 21, 22, 23, 24, 25, 26, 27, 28, 29, 30, 31, 32, 33, 34] dt dt := Fr_refl
  have r1 : (-2147483648) ≤ dt 1 0 ∧ dt 1 0 ≤ 2147483647 := InvC_get hI 1 0 rfl rfl
  refine go_toq PM4 (k := 3) (pc' := 5) (L' := [some (.inr (.inr (some 18))), some (.inr (.inr (some 1)))]) (st' := [.inl (dt 1 0), .inr (.inr (some 18))]) (w' := (SH, dt)) rfl ?_
  have hI2 : InvC (u2 dt 18 0 (dt 1 0)) := InvC_u2 hI (lo := -2147483648) (hi := 2147483647) rfl rfl rfl (by first | exact bnd1 r1 (by decide) | omega) (by first | exact bnd2 r1 (by decide) | omega)
  have hF3 : Fr [18, 19, 20, 21, 22, 23, 24, 25, 26, 27, 28, 29, 30, 31, 32, 33, 34] dt (u2 dt 18 0 (dt 1 0)) := Fr_u2 hF (by decide)
  have w4 : (u2 dt 18 0 (dt 1 0)) 18 0 = dt 1 0 := rfl
  have w5 : (u2 dt 18 0 (dt 1 0)) 24 3 = dt 24 3 := rfl
  have w6 : (u2 dt 18 0 (dt 1 0)) 27 3 = dt 27 3 := rfl
  have w7 : (u2 dt 18 0 (dt 1 0)) 29 3 = dt 29 3 := rfl
  have w8 : (u2 dt 18 0 (dt 1 0)) 31 3 = dt 31 3 := rfl
  have w9 : (u2 dt 18 0 (dt 1 0)) 33 3 = dt 33 3 := rfl
  have w10 : (u2 dt 18 0 (dt 1 0)) 1 0 = dt 1 0 := rfl
  have w11 : (u2 dt 18 0 (dt 1 0)) 7 3 = dt 7 3 := rfl
  have w12 : (u2 dt 18 0 (dt 1 0)) 10 3 = dt 10 3 := rfl
  have w13 : (u2 dt 18 0 (dt 1 0)) 12 3 = dt 12 3 := rfl
  have w14 : (u2 dt 18 0 (dt 1 0)) 14 3 = dt 14 3 := rfl
  have w15 : (u2 dt 18 0 (dt 1 0)) 16 3 = dt 16 3 := rfl
  refine go_smpq PM4 (L' := [some (.inr (.inr (some 18))), some (.inr (.inr (some 1)))]) (st' := []) (w' := (SH, (u2 dt 18 0 (dt 1 0)))) rfl rfl (s_pf rfl rfl rfl rfl (by first | exact bnd r1 (by decide) (by decide) | exact ⟨by omega, by omega⟩)) ?_
  refine go_toq PM4 (k := 9) (pc' := 23) (L' := [some (.inr (.inr (some 18))), some (.inr (.inr (some 1)))]) (st' := [.inl 192, .inl 0, .inr (.inr (some 19)), .inl 0, .inr (.inr (some 2))]) (w' := (SH, (u2 dt 18 0 (dt 1 0)))) rfl ?_
  have hI16 : InvC (am_cp (u2 dt 18 0 (dt 1 0)) 2 19 0 0 192) := InvC_cp hI2 (fun _ _ => rfl) (fun _ _ => rfl) (fun _ => rfl)
  have hF17 : Fr [18, 19, 20, 21, 22, 23, 24, 25, 26, 27, 28, 29, 30, 31, 32, 33, 34] dt (am_cp (u2 dt 18 0 (dt 1 0)) 2 19 0 0 192) := Fr_cp hF3 (by decide)
  have w18 : (am_cp (u2 dt 18 0 (dt 1 0)) 2 19 0 0 192) 18 0 = (u2 dt 18 0 (dt 1 0)) 18 0 := rfl
  have w19 : (am_cp (u2 dt 18 0 (dt 1 0)) 2 19 0 0 192) 24 3 = (u2 dt 18 0 (dt 1 0)) 24 3 := rfl
  have w20 : (am_cp (u2 dt 18 0 (dt 1 0)) 2 19 0 0 192) 27 3 = (u2 dt 18 0 (dt 1 0)) 27 3 := rfl
  have w21 : (am_cp (u2 dt 18 0 (dt 1 0)) 2 19 0 0 192) 29 3 = (u2 dt 18 0 (dt 1 0)) 29 3 := rfl
  have w22 : (am_cp (u2 dt 18 0 (dt 1 0)) 2 19 0 0 192) 31 3 = (u2 dt 18 0 (dt 1 0)) 31 3 := rfl
  have w23 : (am_cp (u2 dt 18 0 (dt 1 0)) 2 19 0 0 192) 33 3 = (u2 dt 18 0 (dt 1 0)) 33 3 := rfl
  have w24 : (am_cp (u2 dt 18 0 (dt 1 0)) 2 19 0 0 192) 1 0 = (u2 dt 18 0 (dt 1 0)) 1 0 := rfl
  have w25 : (am_cp (u2 dt 18 0 (dt 1 0)) 2 19 0 0 192) 7 3 = (u2 dt 18 0 (dt 1 0)) 7 3 := rfl
  have w26 : (am_cp (u2 dt 18 0 (dt 1 0)) 2 19 0 0 192) 10 3 = (u2 dt 18 0 (dt 1 0)) 10 3 := rfl
  have w27 : (am_cp (u2 dt 18 0 (dt 1 0)) 2 19 0 0 192) 12 3 = (u2 dt 18 0 (dt 1 0)) 12 3 := rfl
  have w28 : (am_cp (u2 dt 18 0 (dt 1 0)) 2 19 0 0 192) 14 3 = (u2 dt 18 0 (dt 1 0)) 14 3 := rfl
  have w29 : (am_cp (u2 dt 18 0 (dt 1 0)) 2 19 0 0 192) 16 3 = (u2 dt 18 0 (dt 1 0)) 16 3 := rfl
  have T30 : ∀ j : Nat, j < 192 → (am_cp (u2 dt 18 0 (dt 1 0)) 2 19 0 0 192) 19 j = dt 2 j := fun j hj => (cp_atv hj).trans (hF3 2 (by decide) j)
  refine go_cpyq PM4 (L' := [some (.inr (.inr (some 18))), some (.inr (.inr (some 1)))]) (st' := []) (w' := (SH, (am_cp (u2 dt 18 0 (dt 1 0)) 2 19 0 0 192))) rfl rfl (s_cpy (n0 := 192) (n1 := 192) rfl rfl ⟨⟨by omega, by omega, by omega⟩, by omega, by omega, by decide⟩) ?_
  refine go_toq PM4 (k := 9) (pc' := 41) (L' := [some (.inr (.inr (some 18))), some (.inr (.inr (some 1)))]) (st' := [.inl 8, .inl 0, .inr (.inr (some 20)), .inl 0, .inr (.inr (some 3))]) (w' := (SH, (am_cp (u2 dt 18 0 (dt 1 0)) 2 19 0 0 192))) rfl ?_
  have hI31 : InvC (am_cp (am_cp (u2 dt 18 0 (dt 1 0)) 2 19 0 0 192) 3 20 0 0 8) := InvC_cp hI16 (fun _ _ => rfl) (fun _ _ => rfl) (fun _ => rfl)
  have hF32 : Fr [18, 19, 20, 21, 22, 23, 24, 25, 26, 27, 28, 29, 30, 31, 32, 33, 34] dt (am_cp (am_cp (u2 dt 18 0 (dt 1 0)) 2 19 0 0 192) 3 20 0 0 8) := Fr_cp hF17 (by decide)
  have w33 : (am_cp (am_cp (u2 dt 18 0 (dt 1 0)) 2 19 0 0 192) 3 20 0 0 8) 18 0 = (am_cp (u2 dt 18 0 (dt 1 0)) 2 19 0 0 192) 18 0 := rfl
  have w34 : (am_cp (am_cp (u2 dt 18 0 (dt 1 0)) 2 19 0 0 192) 3 20 0 0 8) 24 3 = (am_cp (u2 dt 18 0 (dt 1 0)) 2 19 0 0 192) 24 3 := rfl
  have w35 : (am_cp (am_cp (u2 dt 18 0 (dt 1 0)) 2 19 0 0 192) 3 20 0 0 8) 27 3 = (am_cp (u2 dt 18 0 (dt 1 0)) 2 19 0 0 192) 27 3 := rfl
  have w36 : (am_cp (am_cp (u2 dt 18 0 (dt 1 0)) 2 19 0 0 192) 3 20 0 0 8) 29 3 = (am_cp (u2 dt 18 0 (dt 1 0)) 2 19 0 0 192) 29 3 := rfl
  have w37 : (am_cp (am_cp (u2 dt 18 0 (dt 1 0)) 2 19 0 0 192) 3 20 0 0 8) 31 3 = (am_cp (u2 dt 18 0 (dt 1 0)) 2 19 0 0 192) 31 3 := rfl
  have w38 : (am_cp (am_cp (u2 dt 18 0 (dt 1 0)) 2 19 0 0 192) 3 20 0 0 8) 33 3 = (am_cp (u2 dt 18 0 (dt 1 0)) 2 19 0 0 192) 33 3 := rfl
  have w39 : (am_cp (am_cp (u2 dt 18 0 (dt 1 0)) 2 19 0 0 192) 3 20 0 0 8) 1 0 = (am_cp (u2 dt 18 0 (dt 1 0)) 2 19 0 0 192) 1 0 := rfl
  have w40 : (am_cp (am_cp (u2 dt 18 0 (dt 1 0)) 2 19 0 0 192) 3 20 0 0 8) 7 3 = (am_cp (u2 dt 18 0 (dt 1 0)) 2 19 0 0 192) 7 3 := rfl
  have w41 : (am_cp (am_cp (u2 dt 18 0 (dt 1 0)) 2 19 0 0 192) 3 20 0 0 8) 10 3 = (am_cp (u2 dt 18 0 (dt 1 0)) 2 19 0 0 192) 10 3 := rfl
  have w42 : (am_cp (am_cp (u2 dt 18 0 (dt 1 0)) 2 19 0 0 192) 3 20 0 0 8) 12 3 = (am_cp (u2 dt 18 0 (dt 1 0)) 2 19 0 0 192) 12 3 := rfl
  have w43 : (am_cp (am_cp (u2 dt 18 0 (dt 1 0)) 2 19 0 0 192) 3 20 0 0 8) 14 3 = (am_cp (u2 dt 18 0 (dt 1 0)) 2 19 0 0 192) 14 3 := rfl
  have w44 : (am_cp (am_cp (u2 dt 18 0 (dt 1 0)) 2 19 0 0 192) 3 20 0 0 8) 16 3 = (am_cp (u2 dt 18 0 (dt 1 0)) 2 19 0 0 192) 16 3 := rfl
  have T45 : ∀ j : Nat, j < 192 → (am_cp (am_cp (u2 dt 18 0 (dt 1 0)) 2 19 0 0 192) 3 20 0 0 8) 19 j = dt 2 j := fun j hj => (cp_ne (by decide)).trans (T30 j hj)
  have T46 : ∀ j : Nat, j < 8 → (am_cp (am_cp (u2 dt 18 0 (dt 1 0)) 2 19 0 0 192) 3 20 0 0 8) 20 j = dt 3 j := fun j hj => (cp_atv hj).trans (hF17 3 (by decide) j)
  refine go_cpyq PM4 (L' := [some (.inr (.inr (some 18))), some (.inr (.inr (some 1)))]) (st' := []) (w' := (SH, (am_cp (am_cp (u2 dt 18 0 (dt 1 0)) 2 19 0 0 192) 3 20 0 0 8))) rfl rfl (s_cpy (n0 := 8) (n1 := 8) rfl rfl ⟨⟨by omega, by omega, by omega⟩, by omega, by omega, by decide⟩) ?_
  refine go_toq PM4 (k := 9) (pc' := 59) (L' := [some (.inr (.inr (some 18))), some (.inr (.inr (some 1)))]) (st' := [.inl 256, .inl 0, .inr (.inr (some 21)), .inl 0, .inr (.inr (some 4))]) (w' := (SH, (am_cp (am_cp (u2 dt 18 0 (dt 1 0)) 2 19 0 0 192) 3 20 0 0 8))) rfl ?_
  have hI47 : InvC (am_cp (am_cp (am_cp (u2 dt 18 0 (dt 1 0)) 2 19 0 0 192) 3 20 0 0 8) 4 21 0 0 256) := InvC_cp hI31 (fun _ _ => rfl) (fun _ _ => rfl) (fun _ => rfl)
  have hF48 : Fr [18, 19, 20, 21, 22, 23, 24, 25, 26, 27, 28, 29, 30, 31, 32, 33, 34] dt (am_cp (am_cp (am_cp (u2 dt 18 0 (dt 1 0)) 2 19 0 0 192) 3 20 0 0 8) 4 21 0 0 256) := Fr_cp hF32 (by decide)
  have w49 : (am_cp (am_cp (am_cp (u2 dt 18 0 (dt 1 0)) 2 19 0 0 192) 3 20 0 0 8) 4 21 0 0 256) 18 0 = (am_cp (am_cp (u2 dt 18 0 (dt 1 0)) 2 19 0 0 192) 3 20 0 0 8) 18 0 := rfl
  have w50 : (am_cp (am_cp (am_cp (u2 dt 18 0 (dt 1 0)) 2 19 0 0 192) 3 20 0 0 8) 4 21 0 0 256) 24 3 = (am_cp (am_cp (u2 dt 18 0 (dt 1 0)) 2 19 0 0 192) 3 20 0 0 8) 24 3 := rfl
  have w51 : (am_cp (am_cp (am_cp (u2 dt 18 0 (dt 1 0)) 2 19 0 0 192) 3 20 0 0 8) 4 21 0 0 256) 27 3 = (am_cp (am_cp (u2 dt 18 0 (dt 1 0)) 2 19 0 0 192) 3 20 0 0 8) 27 3 := rfl
  have w52 : (am_cp (am_cp (am_cp (u2 dt 18 0 (dt 1 0)) 2 19 0 0 192) 3 20 0 0 8) 4 21 0 0 256) 29 3 = (am_cp (am_cp (u2 dt 18 0 (dt 1 0)) 2 19 0 0 192) 3 20 0 0 8) 29 3 := rfl
  have w53 : (am_cp (am_cp (am_cp (u2 dt 18 0 (dt 1 0)) 2 19 0 0 192) 3 20 0 0 8) 4 21 0 0 256) 31 3 = (am_cp (am_cp (u2 dt 18 0 (dt 1 0)) 2 19 0 0 192) 3 20 0 0 8) 31 3 := rfl
  have w54 : (am_cp (am_cp (am_cp (u2 dt 18 0 (dt 1 0)) 2 19 0 0 192) 3 20 0 0 8) 4 21 0 0 256) 33 3 = (am_cp (am_cp (u2 dt 18 0 (dt 1 0)) 2 19 0 0 192) 3 20 0 0 8) 33 3 := rfl
  have w55 : (am_cp (am_cp (am_cp (u2 dt 18 0 (dt 1 0)) 2 19 0 0 192) 3 20 0 0 8) 4 21 0 0 256) 1 0 = (am_cp (am_cp (u2 dt 18 0 (dt 1 0)) 2 19 0 0 192) 3 20 0 0 8) 1 0 := rfl
  have w56 : (am_cp (am_cp (am_cp (u2 dt 18 0 (dt 1 0)) 2 19 0 0 192) 3 20 0 0 8) 4 21 0 0 256) 7 3 = (am_cp (am_cp (u2 dt 18 0 (dt 1 0)) 2 19 0 0 192) 3 20 0 0 8) 7 3 := rfl
  have w57 : (am_cp (am_cp (am_cp (u2 dt 18 0 (dt 1 0)) 2 19 0 0 192) 3 20 0 0 8) 4 21 0 0 256) 10 3 = (am_cp (am_cp (u2 dt 18 0 (dt 1 0)) 2 19 0 0 192) 3 20 0 0 8) 10 3 := rfl
  have w58 : (am_cp (am_cp (am_cp (u2 dt 18 0 (dt 1 0)) 2 19 0 0 192) 3 20 0 0 8) 4 21 0 0 256) 12 3 = (am_cp (am_cp (u2 dt 18 0 (dt 1 0)) 2 19 0 0 192) 3 20 0 0 8) 12 3 := rfl
  have w59 : (am_cp (am_cp (am_cp (u2 dt 18 0 (dt 1 0)) 2 19 0 0 192) 3 20 0 0 8) 4 21 0 0 256) 14 3 = (am_cp (am_cp (u2 dt 18 0 (dt 1 0)) 2 19 0 0 192) 3 20 0 0 8) 14 3 := rfl
  have w60 : (am_cp (am_cp (am_cp (u2 dt 18 0 (dt 1 0)) 2 19 0 0 192) 3 20 0 0 8) 4 21 0 0 256) 16 3 = (am_cp (am_cp (u2 dt 18 0 (dt 1 0)) 2 19 0 0 192) 3 20 0 0 8) 16 3 := rfl
  have T61 : ∀ j : Nat, j < 192 → (am_cp (am_cp (am_cp (u2 dt 18 0 (dt 1 0)) 2 19 0 0 192) 3 20 0 0 8) 4 21 0 0 256) 19 j = dt 2 j := fun j hj => (cp_ne (by decide)).trans (T45 j hj)
  have T62 : ∀ j : Nat, j < 8 → (am_cp (am_cp (am_cp (u2 dt 18 0 (dt 1 0)) 2 19 0 0 192) 3 20 0 0 8) 4 21 0 0 256) 20 j = dt 3 j := fun j hj => (cp_ne (by decide)).trans (T46 j hj)
  refine go_cpyq PM4 (L' := [some (.inr (.inr (some 18))), some (.inr (.inr (some 1)))]) (st' := []) (w' := (SH, (am_cp (am_cp (am_cp (u2 dt 18 0 (dt 1 0)) 2 19 0 0 192) 3 20 0 0 8) 4 21 0 0 256))) rfl rfl (s_cpy (n0 := 256) (n1 := 256) rfl rfl ⟨⟨by omega, by omega, by omega⟩, by omega, by omega, by decide⟩) ?_
  refine go_toq PM4 (k := 9) (pc' := 77) (L' := [some (.inr (.inr (some 18))), some (.inr (.inr (some 1)))]) (st' := [.inl 4, .inl 0, .inr (.inr (some 22)), .inl 0, .inr (.inr (some 5))]) (w' := (SH, (am_cp (am_cp (am_cp (u2 dt 18 0 (dt 1 0)) 2 19 0 0 192) 3 20 0 0 8) 4 21 0 0 256))) rfl ?_
  have hI63 : InvC (am_cp (am_cp (am_cp (am_cp (u2 dt 18 0 (dt 1 0)) 2 19 0 0 192) 3 20 0 0 8) 4 21 0 0 256) 5 22 0 0 4) := InvC_cp hI47 (fun _ _ => rfl) (fun _ _ => rfl) (fun _ => rfl)
  have hF64 : Fr [18, 19, 20, 21, 22, 23, 24, 25, 26, 27, 28, 29, 30, 31, 32, 33, 34] dt (am_cp (am_cp (am_cp (am_cp (u2 dt 18 0 (dt 1 0)) 2 19 0 0 192) 3 20 0 0 8) 4 21 0 0 256) 5 22 0 0 4) := Fr_cp hF48 (by decide)
  have w65 : (am_cp (am_cp (am_cp (am_cp (u2 dt 18 0 (dt 1 0)) 2 19 0 0 192) 3 20 0 0 8) 4 21 0 0 256) 5 22 0 0 4) 18 0 = (am_cp (am_cp (am_cp (u2 dt 18 0 (dt 1 0)) 2 19 0 0 192) 3 20 0 0 8) 4 21 0 0 256) 18 0 := rfl
  have w66 : (am_cp (am_cp (am_cp (am_cp (u2 dt 18 0 (dt 1 0)) 2 19 0 0 192) 3 20 0 0 8) 4 21 0 0 256) 5 22 0 0 4) 24 3 = (am_cp (am_cp (am_cp (u2 dt 18 0 (dt 1 0)) 2 19 0 0 192) 3 20 0 0 8) 4 21 0 0 256) 24 3 := rfl
  have w67 : (am_cp (am_cp (am_cp (am_cp (u2 dt 18 0 (dt 1 0)) 2 19 0 0 192) 3 20 0 0 8) 4 21 0 0 256) 5 22 0 0 4) 27 3 = (am_cp (am_cp (am_cp (u2 dt 18 0 (dt 1 0)) 2 19 0 0 192) 3 20 0 0 8) 4 21 0 0 256) 27 3 := rfl
  have w68 : (am_cp (am_cp (am_cp (am_cp (u2 dt 18 0 (dt 1 0)) 2 19 0 0 192) 3 20 0 0 8) 4 21 0 0 256) 5 22 0 0 4) 29 3 = (am_cp (am_cp (am_cp (u2 dt 18 0 (dt 1 0)) 2 19 0 0 192) 3 20 0 0 8) 4 21 0 0 256) 29 3 := rfl
  have w69 : (am_cp (am_cp (am_cp (am_cp (u2 dt 18 0 (dt 1 0)) 2 19 0 0 192) 3 20 0 0 8) 4 21 0 0 256) 5 22 0 0 4) 31 3 = (am_cp (am_cp (am_cp (u2 dt 18 0 (dt 1 0)) 2 19 0 0 192) 3 20 0 0 8) 4 21 0 0 256) 31 3 := rfl
  have w70 : (am_cp (am_cp (am_cp (am_cp (u2 dt 18 0 (dt 1 0)) 2 19 0 0 192) 3 20 0 0 8) 4 21 0 0 256) 5 22 0 0 4) 33 3 = (am_cp (am_cp (am_cp (u2 dt 18 0 (dt 1 0)) 2 19 0 0 192) 3 20 0 0 8) 4 21 0 0 256) 33 3 := rfl
  have w71 : (am_cp (am_cp (am_cp (am_cp (u2 dt 18 0 (dt 1 0)) 2 19 0 0 192) 3 20 0 0 8) 4 21 0 0 256) 5 22 0 0 4) 1 0 = (am_cp (am_cp (am_cp (u2 dt 18 0 (dt 1 0)) 2 19 0 0 192) 3 20 0 0 8) 4 21 0 0 256) 1 0 := rfl
  have w72 : (am_cp (am_cp (am_cp (am_cp (u2 dt 18 0 (dt 1 0)) 2 19 0 0 192) 3 20 0 0 8) 4 21 0 0 256) 5 22 0 0 4) 7 3 = (am_cp (am_cp (am_cp (u2 dt 18 0 (dt 1 0)) 2 19 0 0 192) 3 20 0 0 8) 4 21 0 0 256) 7 3 := rfl
  have w73 : (am_cp (am_cp (am_cp (am_cp (u2 dt 18 0 (dt 1 0)) 2 19 0 0 192) 3 20 0 0 8) 4 21 0 0 256) 5 22 0 0 4) 10 3 = (am_cp (am_cp (am_cp (u2 dt 18 0 (dt 1 0)) 2 19 0 0 192) 3 20 0 0 8) 4 21 0 0 256) 10 3 := rfl
  have w74 : (am_cp (am_cp (am_cp (am_cp (u2 dt 18 0 (dt 1 0)) 2 19 0 0 192) 3 20 0 0 8) 4 21 0 0 256) 5 22 0 0 4) 12 3 = (am_cp (am_cp (am_cp (u2 dt 18 0 (dt 1 0)) 2 19 0 0 192) 3 20 0 0 8) 4 21 0 0 256) 12 3 := rfl
  have w75 : (am_cp (am_cp (am_cp (am_cp (u2 dt 18 0 (dt 1 0)) 2 19 0 0 192) 3 20 0 0 8) 4 21 0 0 256) 5 22 0 0 4) 14 3 = (am_cp (am_cp (am_cp (u2 dt 18 0 (dt 1 0)) 2 19 0 0 192) 3 20 0 0 8) 4 21 0 0 256) 14 3 := rfl
  have w76 : (am_cp (am_cp (am_cp (am_cp (u2 dt 18 0 (dt 1 0)) 2 19 0 0 192) 3 20 0 0 8) 4 21 0 0 256) 5 22 0 0 4) 16 3 = (am_cp (am_cp (am_cp (u2 dt 18 0 (dt 1 0)) 2 19 0 0 192) 3 20 0 0 8) 4 21 0 0 256) 16 3 := rfl
  have T77 : ∀ j : Nat, j < 192 → (am_cp (am_cp (am_cp (am_cp (u2 dt 18 0 (dt 1 0)) 2 19 0 0 192) 3 20 0 0 8) 4 21 0 0 256) 5 22 0 0 4) 19 j = dt 2 j := fun j hj => (cp_ne (by decide)).trans (T61 j hj)
  have T78 : ∀ j : Nat, j < 8 → (am_cp (am_cp (am_cp (am_cp (u2 dt 18 0 (dt 1 0)) 2 19 0 0 192) 3 20 0 0 8) 4 21 0 0 256) 5 22 0 0 4) 20 j = dt 3 j := fun j hj => (cp_ne (by decide)).trans (T62 j hj)
  refine go_cpyq PM4 (L' := [some (.inr (.inr (some 18))), some (.inr (.inr (some 1)))]) (st' := []) (w' := (SH, (am_cp (am_cp (am_cp (am_cp (u2 dt 18 0 (dt 1 0)) 2 19 0 0 192) 3 20 0 0 8) 4 21 0 0 256) 5 22 0 0 4))) rfl rfl (s_cpy (n0 := 4) (n1 := 4) rfl rfl ⟨⟨by omega, by omega, by omega⟩, by omega, by omega, by decide⟩) ?_
  refine go_toq PM4 (k := 9) (pc' := 95) (L' := [some (.inr (.inr (some 18))), some (.inr (.inr (some 1)))]) (st' := [.inl 2000, .inl 0, .inr (.inr (some 23)), .inl 0, .inr (.inr (some 6))]) (w' := (SH, (am_cp (am_cp (am_cp (am_cp (u2 dt 18 0 (dt 1 0)) 2 19 0 0 192) 3 20 0 0 8) 4 21 0 0 256) 5 22 0 0 4))) rfl ?_
  have hI79 : InvC (am_cp (am_cp (am_cp (am_cp (am_cp (u2 dt 18 0 (dt 1 0)) 2 19 0 0 192) 3 20 0 0 8) 4 21 0 0 256) 5 22 0 0 4) 6 23 0 0 2000) := InvC_cp hI63 (fun _ _ => rfl) (fun _ _ => rfl) (fun _ => rfl)
  have hF80 : Fr [18, 19, 20, 21, 22, 23, 24, 25, 26, 27, 28, 29, 30, 31, 32, 33, 34] dt (am_cp (am_cp (am_cp (am_cp (am_cp (u2 dt 18 0 (dt 1 0)) 2 19 0 0 192) 3 20 0 0 8) 4 21 0 0 256) 5 22 0 0 4) 6 23 0 0 2000) := Fr_cp hF64 (by decide)
  have w81 : (am_cp (am_cp (am_cp (am_cp (am_cp (u2 dt 18 0 (dt 1 0)) 2 19 0 0 192) 3 20 0 0 8) 4 21 0 0 256) 5 22 0 0 4) 6 23 0 0 2000) 18 0 = (am_cp (am_cp (am_cp (am_cp (u2 dt 18 0 (dt 1 0)) 2 19 0 0 192) 3 20 0 0 8) 4 21 0 0 256) 5 22 0 0 4) 18 0 := rfl
  have w82 : (am_cp (am_cp (am_cp (am_cp (am_cp (u2 dt 18 0 (dt 1 0)) 2 19 0 0 192) 3 20 0 0 8) 4 21 0 0 256) 5 22 0 0 4) 6 23 0 0 2000) 24 3 = (am_cp (am_cp (am_cp (am_cp (u2 dt 18 0 (dt 1 0)) 2 19 0 0 192) 3 20 0 0 8) 4 21 0 0 256) 5 22 0 0 4) 24 3 := rfl
  have w83 : (am_cp (am_cp (am_cp (am_cp (am_cp (u2 dt 18 0 (dt 1 0)) 2 19 0 0 192) 3 20 0 0 8) 4 21 0 0 256) 5 22 0 0 4) 6 23 0 0 2000) 27 3 = (am_cp (am_cp (am_cp (am_cp (u2 dt 18 0 (dt 1 0)) 2 19 0 0 192) 3 20 0 0 8) 4 21 0 0 256) 5 22 0 0 4) 27 3 := rfl
  have w84 : (am_cp (am_cp (am_cp (am_cp (am_cp (u2 dt 18 0 (dt 1 0)) 2 19 0 0 192) 3 20 0 0 8) 4 21 0 0 256) 5 22 0 0 4) 6 23 0 0 2000) 29 3 = (am_cp (am_cp (am_cp (am_cp (u2 dt 18 0 (dt 1 0)) 2 19 0 0 192) 3 20 0 0 8) 4 21 0 0 256) 5 22 0 0 4) 29 3 := rfl
  have w85 : (am_cp (am_cp (am_cp (am_cp (am_cp (u2 dt 18 0 (dt 1 0)) 2 19 0 0 192) 3 20 0 0 8) 4 21 0 0 256) 5 22 0 0 4) 6 23 0 0 2000) 31 3 = (am_cp (am_cp (am_cp (am_cp (u2 dt 18 0 (dt 1 0)) 2 19 0 0 192) 3 20 0 0 8) 4 21 0 0 256) 5 22 0 0 4) 31 3 := rfl
  have w86 : (am_cp (am_cp (am_cp (am_cp (am_cp (u2 dt 18 0 (dt 1 0)) 2 19 0 0 192) 3 20 0 0 8) 4 21 0 0 256) 5 22 0 0 4) 6 23 0 0 2000) 33 3 = (am_cp (am_cp (am_cp (am_cp (u2 dt 18 0 (dt 1 0)) 2 19 0 0 192) 3 20 0 0 8) 4 21 0 0 256) 5 22 0 0 4) 33 3 := rfl
  have w87 : (am_cp (am_cp (am_cp (am_cp (am_cp (u2 dt 18 0 (dt 1 0)) 2 19 0 0 192) 3 20 0 0 8) 4 21 0 0 256) 5 22 0 0 4) 6 23 0 0 2000) 1 0 = (am_cp (am_cp (am_cp (am_cp (u2 dt 18 0 (dt 1 0)) 2 19 0 0 192) 3 20 0 0 8) 4 21 0 0 256) 5 22 0 0 4) 1 0 := rfl
  have w88 : (am_cp (am_cp (am_cp (am_cp (am_cp (u2 dt 18 0 (dt 1 0)) 2 19 0 0 192) 3 20 0 0 8) 4 21 0 0 256) 5 22 0 0 4) 6 23 0 0 2000) 7 3 = (am_cp (am_cp (am_cp (am_cp (u2 dt 18 0 (dt 1 0)) 2 19 0 0 192) 3 20 0 0 8) 4 21 0 0 256) 5 22 0 0 4) 7 3 := rfl
  have w89 : (am_cp (am_cp (am_cp (am_cp (am_cp (u2 dt 18 0 (dt 1 0)) 2 19 0 0 192) 3 20 0 0 8) 4 21 0 0 256) 5 22 0 0 4) 6 23 0 0 2000) 10 3 = (am_cp (am_cp (am_cp (am_cp (u2 dt 18 0 (dt 1 0)) 2 19 0 0 192) 3 20 0 0 8) 4 21 0 0 256) 5 22 0 0 4) 10 3 := rfl
  have w90 : (am_cp (am_cp (am_cp (am_cp (am_cp (u2 dt 18 0 (dt 1 0)) 2 19 0 0 192) 3 20 0 0 8) 4 21 0 0 256) 5 22 0 0 4) 6 23 0 0 2000) 12 3 = (am_cp (am_cp (am_cp (am_cp (u2 dt 18 0 (dt 1 0)) 2 19 0 0 192) 3 20 0 0 8) 4 21 0 0 256) 5 22 0 0 4) 12 3 := rfl
  have w91 : (am_cp (am_cp (am_cp (am_cp (am_cp (u2 dt 18 0 (dt 1 0)) 2 19 0 0 192) 3 20 0 0 8) 4 21 0 0 256) 5 22 0 0 4) 6 23 0 0 2000) 14 3 = (am_cp (am_cp (am_cp (am_cp (u2 dt 18 0 (dt 1 0)) 2 19 0 0 192) 3 20 0 0 8) 4 21 0 0 256) 5 22 0 0 4) 14 3 := rfl
  have w92 : (am_cp (am_cp (am_cp (am_cp (am_cp (u2 dt 18 0 (dt 1 0)) 2 19 0 0 192) 3 20 0 0 8) 4 21 0 0 256) 5 22 0 0 4) 6 23 0 0 2000) 16 3 = (am_cp (am_cp (am_cp (am_cp (u2 dt 18 0 (dt 1 0)) 2 19 0 0 192) 3 20 0 0 8) 4 21 0 0 256) 5 22 0 0 4) 16 3 := rfl
  have T93 : ∀ j : Nat, j < 192 → (am_cp (am_cp (am_cp (am_cp (am_cp (u2 dt 18 0 (dt 1 0)) 2 19 0 0 192) 3 20 0 0 8) 4 21 0 0 256) 5 22 0 0 4) 6 23 0 0 2000) 19 j = dt 2 j := fun j hj => (cp_ne (by decide)).trans (T77 j hj)
  have T94 : ∀ j : Nat, j < 8 → (am_cp (am_cp (am_cp (am_cp (am_cp (u2 dt 18 0 (dt 1 0)) 2 19 0 0 192) 3 20 0 0 8) 4 21 0 0 256) 5 22 0 0 4) 6 23 0 0 2000) 20 j = dt 3 j := fun j hj => (cp_ne (by decide)).trans (T78 j hj)
  refine go_cpyq PM4 (L' := [some (.inr (.inr (some 18))), some (.inr (.inr (some 1)))]) (st' := []) (w' := (SH, (am_cp (am_cp (am_cp (am_cp (am_cp (u2 dt 18 0 (dt 1 0)) 2 19 0 0 192) 3 20 0 0 8) 4 21 0 0 256) 5 22 0 0 4) 6 23 0 0 2000))) rfl rfl (s_cpy (n0 := 2000) (n1 := 2000) rfl rfl ⟨⟨by omega, by omega, by omega⟩, by omega, by omega, by decide⟩) ?_
  refine go_toq PM4 (k := 9) (pc' := 113) (L' := [some (.inr (.inr (some 18))), some (.inr (.inr (some 1)))]) (st' := [.inl 132, .inl 0, .inr (.inr (some 26)), .inl 0, .inr (.inr (some 9))]) (w' := (SH, (am_cp (am_cp (am_cp (am_cp (am_cp (u2 dt 18 0 (dt 1 0)) 2 19 0 0 192) 3 20 0 0 8) 4 21 0 0 256) 5 22 0 0 4) 6 23 0 0 2000))) rfl ?_
  have hI95 : InvC (am_cp (am_cp (am_cp (am_cp (am_cp (am_cp (u2 dt 18 0 (dt 1 0)) 2 19 0 0 192) 3 20 0 0 8) 4 21 0 0 256) 5 22 0 0 4) 6 23 0 0 2000) 9 26 0 0 132) := InvC_cp hI79 (fun _ _ => rfl) (fun _ _ => rfl) (fun _ => rfl)
  have hF96 : Fr [18, 19, 20, 21, 22, 23, 24, 25, 26, 27, 28, 29, 30, 31, 32, 33, 34] dt (am_cp (am_cp (am_cp (am_cp (am_cp (am_cp (u2 dt 18 0 (dt 1 0)) 2 19 0 0 192) 3 20 0 0 8) 4 21 0 0 256) 5 22 0 0 4) 6 23 0 0 2000) 9 26 0 0 132) := Fr_cp hF80 (by decide)
  have w97 : (am_cp (am_cp (am_cp (am_cp (am_cp (am_cp (u2 dt 18 0 (dt 1 0)) 2 19 0 0 192) 3 20 0 0 8) 4 21 0 0 256) 5 22 0 0 4) 6 23 0 0 2000) 9 26 0 0 132) 18 0 = (am_cp (am_cp (am_cp (am_cp (am_cp (u2 dt 18 0 (dt 1 0)) 2 19 0 0 192) 3 20 0 0 8) 4 21 0 0 256) 5 22 0 0 4) 6 23 0 0 2000) 18 0 := rfl
  have w98 : (am_cp (am_cp (am_cp (am_cp (am_cp (am_cp (u2 dt 18 0 (dt 1 0)) 2 19 0 0 192) 3 20 0 0 8) 4 21 0 0 256) 5 22 0 0 4) 6 23 0 0 2000) 9 26 0 0 132) 24 3 = (am_cp (am_cp (am_cp (am_cp (am_cp (u2 dt 18 0 (dt 1 0)) 2 19 0 0 192) 3 20 0 0 8) 4 21 0 0 256) 5 22 0 0 4) 6 23 0 0 2000) 24 3 := rfl
  have w99 : (am_cp (am_cp (am_cp (am_cp (am_cp (am_cp (u2 dt 18 0 (dt 1 0)) 2 19 0 0 192) 3 20 0 0 8) 4 21 0 0 256) 5 22 0 0 4) 6 23 0 0 2000) 9 26 0 0 132) 27 3 = (am_cp (am_cp (am_cp (am_cp (am_cp (u2 dt 18 0 (dt 1 0)) 2 19 0 0 192) 3 20 0 0 8) 4 21 0 0 256) 5 22 0 0 4) 6 23 0 0 2000) 27 3 := rfl
  have w100 : (am_cp (am_cp (am_cp (am_cp (am_cp (am_cp (u2 dt 18 0 (dt 1 0)) 2 19 0 0 192) 3 20 0 0 8) 4 21 0 0 256) 5 22 0 0 4) 6 23 0 0 2000) 9 26 0 0 132) 29 3 = (am_cp (am_cp (am_cp (am_cp (am_cp (u2 dt 18 0 (dt 1 0)) 2 19 0 0 192) 3 20 0 0 8) 4 21 0 0 256) 5 22 0 0 4) 6 23 0 0 2000) 29 3 := rfl
  have w101 : (am_cp (am_cp (am_cp (am_cp (am_cp (am_cp (u2 dt 18 0 (dt 1 0)) 2 19 0 0 192) 3 20 0 0 8) 4 21 0 0 256) 5 22 0 0 4) 6 23 0 0 2000) 9 26 0 0 132) 31 3 = (am_cp (am_cp (am_cp (am_cp (am_cp (u2 dt 18 0 (dt 1 0)) 2 19 0 0 192) 3 20 0 0 8) 4 21 0 0 256) 5 22 0 0 4) 6 23 0 0 2000) 31 3 := rfl
  have w102 : (am_cp (am_cp (am_cp (am_cp (am_cp (am_cp (u2 dt 18 0 (dt 1 0)) 2 19 0 0 192) 3 20 0 0 8) 4 21 0 0 256) 5 22 0 0 4) 6 23 0 0 2000) 9 26 0 0 132) 33 3 = (am_cp (am_cp (am_cp (am_cp (am_cp (u2 dt 18 0 (dt 1 0)) 2 19 0 0 192) 3 20 0 0 8) 4 21 0 0 256) 5 22 0 0 4) 6 23 0 0 2000) 33 3 := rfl
  have w103 : (am_cp (am_cp (am_cp (am_cp (am_cp (am_cp (u2 dt 18 0 (dt 1 0)) 2 19 0 0 192) 3 20 0 0 8) 4 21 0 0 256) 5 22 0 0 4) 6 23 0 0 2000) 9 26 0 0 132) 1 0 = (am_cp (am_cp (am_cp (am_cp (am_cp (u2 dt 18 0 (dt 1 0)) 2 19 0 0 192) 3 20 0 0 8) 4 21 0 0 256) 5 22 0 0 4) 6 23 0 0 2000) 1 0 := rfl
  have w104 : (am_cp (am_cp (am_cp (am_cp (am_cp (am_cp (u2 dt 18 0 (dt 1 0)) 2 19 0 0 192) 3 20 0 0 8) 4 21 0 0 256) 5 22 0 0 4) 6 23 0 0 2000) 9 26 0 0 132) 7 3 = (am_cp (am_cp (am_cp (am_cp (am_cp (u2 dt 18 0 (dt 1 0)) 2 19 0 0 192) 3 20 0 0 8) 4 21 0 0 256) 5 22 0 0 4) 6 23 0 0 2000) 7 3 := rfl
  have w105 : (am_cp (am_cp (am_cp (am_cp (am_cp (am_cp (u2 dt 18 0 (dt 1 0)) 2 19 0 0 192) 3 20 0 0 8) 4 21 0 0 256) 5 22 0 0 4) 6 23 0 0 2000) 9 26 0 0 132) 10 3 = (am_cp (am_cp (am_cp (am_cp (am_cp (u2 dt 18 0 (dt 1 0)) 2 19 0 0 192) 3 20 0 0 8) 4 21 0 0 256) 5 22 0 0 4) 6 23 0 0 2000) 10 3 := rfl
  have w106 : (am_cp (am_cp (am_cp (am_cp (am_cp (am_cp (u2 dt 18 0 (dt 1 0)) 2 19 0 0 192) 3 20 0 0 8) 4 21 0 0 256) 5 22 0 0 4) 6 23 0 0 2000) 9 26 0 0 132) 12 3 = (am_cp (am_cp (am_cp (am_cp (am_cp (u2 dt 18 0 (dt 1 0)) 2 19 0 0 192) 3 20 0 0 8) 4 21 0 0 256) 5 22 0 0 4) 6 23 0 0 2000) 12 3 := rfl
  have w107 : (am_cp (am_cp (am_cp (am_cp (am_cp (am_cp (u2 dt 18 0 (dt 1 0)) 2 19 0 0 192) 3 20 0 0 8) 4 21 0 0 256) 5 22 0 0 4) 6 23 0 0 2000) 9 26 0 0 132) 14 3 = (am_cp (am_cp (am_cp (am_cp (am_cp (u2 dt 18 0 (dt 1 0)) 2 19 0 0 192) 3 20 0 0 8) 4 21 0 0 256) 5 22 0 0 4) 6 23 0 0 2000) 14 3 := rfl
  have w108 : (am_cp (am_cp (am_cp (am_cp (am_cp (am_cp (u2 dt 18 0 (dt 1 0)) 2 19 0 0 192) 3 20 0 0 8) 4 21 0 0 256) 5 22 0 0 4) 6 23 0 0 2000) 9 26 0 0 132) 16 3 = (am_cp (am_cp (am_cp (am_cp (am_cp (u2 dt 18 0 (dt 1 0)) 2 19 0 0 192) 3 20 0 0 8) 4 21 0 0 256) 5 22 0 0 4) 6 23 0 0 2000) 16 3 := rfl
  have T109 : ∀ j : Nat, j < 192 → (am_cp (am_cp (am_cp (am_cp (am_cp (am_cp (u2 dt 18 0 (dt 1 0)) 2 19 0 0 192) 3 20 0 0 8) 4 21 0 0 256) 5 22 0 0 4) 6 23 0 0 2000) 9 26 0 0 132) 19 j = dt 2 j := fun j hj => (cp_ne (by decide)).trans (T93 j hj)
  have T110 : ∀ j : Nat, j < 8 → (am_cp (am_cp (am_cp (am_cp (am_cp (am_cp (u2 dt 18 0 (dt 1 0)) 2 19 0 0 192) 3 20 0 0 8) 4 21 0 0 256) 5 22 0 0 4) 6 23 0 0 2000) 9 26 0 0 132) 20 j = dt 3 j := fun j hj => (cp_ne (by decide)).trans (T94 j hj)
  have T111 : ∀ j : Nat, j < 132 → (am_cp (am_cp (am_cp (am_cp (am_cp (am_cp (u2 dt 18 0 (dt 1 0)) 2 19 0 0 192) 3 20 0 0 8) 4 21 0 0 256) 5 22 0 0 4) 6 23 0 0 2000) 9 26 0 0 132) 26 j = dt 9 j := fun j hj => (cp_atv hj).trans (hF80 9 (by decide) j)
  refine go_cpyq PM4 (L' := [some (.inr (.inr (some 18))), some (.inr (.inr (some 1)))]) (st' := []) (w' := (SH, (am_cp (am_cp (am_cp (am_cp (am_cp (am_cp (u2 dt 18 0 (dt 1 0)) 2 19 0 0 192) 3 20 0 0 8) 4 21 0 0 256) 5 22 0 0 4) 6 23 0 0 2000) 9 26 0 0 132))) rfl rfl (s_cpy (n0 := 132) (n1 := 132) rfl rfl ⟨⟨by omega, by omega, by omega⟩, by omega, by omega, by decide⟩) ?_
  refine go_toq PM4 (k := 4) (pc' := 124) (L' := [some (.inr (.inr (some 18))), some (.inr (.inr (some 1)))]) (st' := [.inr (.inr (some 7)), .inr (.inr (some 24))]) (w' := (SH, (am_cp (am_cp (am_cp (am_cp (am_cp (am_cp (u2 dt 18 0 (dt 1 0)) 2 19 0 0 192) 3 20 0 0 8) 4 21 0 0 256) 5 22 0 0 4) 6 23 0 0 2000) 9 26 0 0 132))) rfl ?_
  refine go_callq PM4 PM42 (Q' := _) rfl rfl rfl rfl (sp_X2_copyFrom_24f L xs sio (d + 0) (am_cp (am_cp (am_cp (am_cp (am_cp (am_cp (u2 dt 18 0 (dt 1 0)) 2 19 0 0 192) 3 20 0 0 8) 4 21 0 0 256) 5 22 0 0 4) 6 23 0 0 2000) 9 26 0 0 132) hI95   ) ?_
  rintro _ _ ⟨dt113, rfl, hI114, hF115, h112⟩
  refine ⟨rfl, ?_⟩
  have hF116 : Fr [18, 19, 20, 21, 22, 23, 24, 25, 26, 27, 28, 29, 30, 31, 32, 33, 34] dt dt113 := Fr_tr hF96 hF115 (by decide)
  have w117 : dt113 18 0 = (am_cp (am_cp (am_cp (am_cp (am_cp (am_cp (u2 dt 18 0 (dt 1 0)) 2 19 0 0 192) 3 20 0 0 8) 4 21 0 0 256) 5 22 0 0 4) 6 23 0 0 2000) 9 26 0 0 132) 18 0 := hF115 18 (by decide) 0
  have w118 : dt113 27 3 = (am_cp (am_cp (am_cp (am_cp (am_cp (am_cp (u2 dt 18 0 (dt 1 0)) 2 19 0 0 192) 3 20 0 0 8) 4 21 0 0 256) 5 22 0 0 4) 6 23 0 0 2000) 9 26 0 0 132) 27 3 := hF115 27 (by decide) 3
  have w119 : dt113 29 3 = (am_cp (am_cp (am_cp (am_cp (am_cp (am_cp (u2 dt 18 0 (dt 1 0)) 2 19 0 0 192) 3 20 0 0 8) 4 21 0 0 256) 5 22 0 0 4) 6 23 0 0 2000) 9 26 0 0 132) 29 3 := hF115 29 (by decide) 3
  have w120 : dt113 31 3 = (am_cp (am_cp (am_cp (am_cp (am_cp (am_cp (u2 dt 18 0 (dt 1 0)) 2 19 0 0 192) 3 20 0 0 8) 4 21 0 0 256) 5 22 0 0 4) 6 23 0 0 2000) 9 26 0 0 132) 31 3 := hF115 31 (by decide) 3
  have w121 : dt113 33 3 = (am_cp (am_cp (am_cp (am_cp (am_cp (am_cp (u2 dt 18 0 (dt 1 0)) 2 19 0 0 192) 3 20 0 0 8) 4 21 0 0 256) 5 22 0 0 4) 6 23 0 0 2000) 9 26 0 0 132) 33 3 := hF115 33 (by decide) 3
  have w122 : dt113 1 0 = (am_cp (am_cp (am_cp (am_cp (am_cp (am_cp (u2 dt 18 0 (dt 1 0)) 2 19 0 0 192) 3 20 0 0 8) 4 21 0 0 256) 5 22 0 0 4) 6 23 0 0 2000) 9 26 0 0 132) 1 0 := hF115 1 (by decide) 0
  have w123 : dt113 7 3 = (am_cp (am_cp (am_cp (am_cp (am_cp (am_cp (u2 dt 18 0 (dt 1 0)) 2 19 0 0 192) 3 20 0 0 8) 4 21 0 0 256) 5 22 0 0 4) 6 23 0 0 2000) 9 26 0 0 132) 7 3 := hF115 7 (by decide) 3
  have w124 : dt113 10 3 = (am_cp (am_cp (am_cp (am_cp (am_cp (am_cp (u2 dt 18 0 (dt 1 0)) 2 19 0 0 192) 3 20 0 0 8) 4 21 0 0 256) 5 22 0 0 4) 6 23 0 0 2000) 9 26 0 0 132) 10 3 := hF115 10 (by decide) 3
  have w125 : dt113 12 3 = (am_cp (am_cp (am_cp (am_cp (am_cp (am_cp (u2 dt 18 0 (dt 1 0)) 2 19 0 0 192) 3 20 0 0 8) 4 21 0 0 256) 5 22 0 0 4) 6 23 0 0 2000) 9 26 0 0 132) 12 3 := hF115 12 (by decide) 3
  have w126 : dt113 14 3 = (am_cp (am_cp (am_cp (am_cp (am_cp (am_cp (u2 dt 18 0 (dt 1 0)) 2 19 0 0 192) 3 20 0 0 8) 4 21 0 0 256) 5 22 0 0 4) 6 23 0 0 2000) 9 26 0 0 132) 14 3 := hF115 14 (by decide) 3
  have w127 : dt113 16 3 = (am_cp (am_cp (am_cp (am_cp (am_cp (am_cp (u2 dt 18 0 (dt 1 0)) 2 19 0 0 192) 3 20 0 0 8) 4 21 0 0 256) 5 22 0 0 4) 6 23 0 0 2000) 9 26 0 0 132) 16 3 := hF115 16 (by decide) 3
  rcases h112 with ⟨rfl, h112⟩
  obtain ⟨h112_0, h112_1⟩ := h112
  have T128 : ∀ j : Nat, j < 192 → dt113 19 j = dt 2 j := fun j hj => (hF115 19 (by decide) j).trans (T109 j hj)
  have T129 : ∀ j : Nat, j < 8 → dt113 20 j = dt 3 j := fun j hj => (hF115 20 (by decide) j).trans (T110 j hj)
  have T130 : ∀ j : Nat, j < 60 → dt113 25 j = dt 8 j := fun j hj => (h112_1 j hj).trans (hF96 8 (by decide) j)
  have T131 : ∀ j : Nat, j < 132 → dt113 26 j = dt 9 j := fun j hj => (hF115 26 (by decide) j).trans (T111 j hj)
  refine go_toq PM4 (k := 4) (pc' := 135) (L' := [some (.inr (.inr (some 18))), some (.inr (.inr (some 1)))]) (st' := [.inr (.inr (some 10)), .inr (.inr (some 27))]) (w' := (SH, dt113)) rfl ?_
  refine go_callq PM4 PM42 (Q' := _) rfl rfl rfl rfl (sp_X2_copyFrom_27 L xs sio (d + 0) dt113 hI114   ) ?_
  rintro _ _ ⟨dt133, rfl, hI134, hF135, h132⟩
  refine ⟨rfl, ?_⟩
  have hF136 : Fr [18, 19, 20, 21, 22, 23, 24, 25, 26, 27, 28, 29, 30, 31, 32, 33, 34] dt dt133 := Fr_tr hF116 hF135 (by decide)
  have w137 : dt133 18 0 = dt113 18 0 := hF135 18 (by decide) 0
  have w138 : dt133 24 3 = dt113 24 3 := hF135 24 (by decide) 3
  have w139 : dt133 29 3 = dt113 29 3 := hF135 29 (by decide) 3
  have w140 : dt133 31 3 = dt113 31 3 := hF135 31 (by decide) 3
  have w141 : dt133 33 3 = dt113 33 3 := hF135 33 (by decide) 3
  have w142 : dt133 1 0 = dt113 1 0 := hF135 1 (by decide) 0
  have w143 : dt133 7 3 = dt113 7 3 := hF135 7 (by decide) 3
  have w144 : dt133 10 3 = dt113 10 3 := hF135 10 (by decide) 3
  have w145 : dt133 12 3 = dt113 12 3 := hF135 12 (by decide) 3
  have w146 : dt133 14 3 = dt113 14 3 := hF135 14 (by decide) 3
  have w147 : dt133 16 3 = dt113 16 3 := hF135 16 (by decide) 3
  rcases h132 with ⟨rfl, h132⟩
  have T148 : ∀ j : Nat, j < 192 → dt133 19 j = dt 2 j := fun j hj => (hF135 19 (by decide) j).trans (T128 j hj)
  have T149 : ∀ j : Nat, j < 8 → dt133 20 j = dt 3 j := fun j hj => (hF135 20 (by decide) j).trans (T129 j hj)
  have T150 : ∀ j : Nat, j < 60 → dt133 25 j = dt 8 j := fun j hj => (hF135 25 (by decide) j).trans (T130 j hj)
  have T151 : ∀ j : Nat, j < 132 → dt133 26 j = dt 9 j := fun j hj => (hF135 26 (by decide) j).trans (T131 j hj)
  refine go_toq PM4 (k := 4) (pc' := 146) (L' := [some (.inr (.inr (some 18))), some (.inr (.inr (some 1)))]) (st' := [.inr (.inr (some 12)), .inr (.inr (some 29))]) (w' := (SH, dt133)) rfl ?_
  refine go_callq PM4 PM42 (Q' := _) rfl rfl rfl rfl (sp_X2_copyFrom_29 L xs sio (d + 0) dt133 hI134   ) ?_
  rintro _ _ ⟨dt153, rfl, hI154, hF155, h152⟩
  refine ⟨rfl, ?_⟩
  have hF156 : Fr [18, 19, 20, 21, 22, 23, 24, 25, 26, 27, 28, 29, 30, 31, 32, 33, 34] dt dt153 := Fr_tr hF136 hF155 (by decide)
  have w157 : dt153 18 0 = dt133 18 0 := hF155 18 (by decide) 0
  have w158 : dt153 24 3 = dt133 24 3 := hF155 24 (by decide) 3
  have w159 : dt153 27 3 = dt133 27 3 := hF155 27 (by decide) 3
  have w160 : dt153 31 3 = dt133 31 3 := hF155 31 (by decide) 3
  have w161 : dt153 33 3 = dt133 33 3 := hF155 33 (by decide) 3
  have w162 : dt153 1 0 = dt133 1 0 := hF155 1 (by decide) 0
  have w163 : dt153 7 3 = dt133 7 3 := hF155 7 (by decide) 3
  have w164 : dt153 10 3 = dt133 10 3 := hF155 10 (by decide) 3
  have w165 : dt153 12 3 = dt133 12 3 := hF155 12 (by decide) 3
  have w166 : dt153 14 3 = dt133 14 3 := hF155 14 (by decide) 3
  have w167 : dt153 16 3 = dt133 16 3 := hF155 16 (by decide) 3
  rcases h152 with ⟨rfl, h152⟩
  have T168 : ∀ j : Nat, j < 192 → dt153 19 j = dt 2 j := fun j hj => (hF155 19 (by decide) j).trans (T148 j hj)
  have T169 : ∀ j : Nat, j < 8 → dt153 20 j = dt 3 j := fun j hj => (hF155 20 (by decide) j).trans (T149 j hj)
  have T170 : ∀ j : Nat, j < 60 → dt153 25 j = dt 8 j := fun j hj => (hF155 25 (by decide) j).trans (T150 j hj)
  have T171 : ∀ j : Nat, j < 132 → dt153 26 j = dt 9 j := fun j hj => (hF155 26 (by decide) j).trans (T151 j hj)
  refine go_toq PM4 (k := 4) (pc' := 157) (L' := [some (.inr (.inr (some 18))), some (.inr (.inr (some 1)))]) (st' := [.inr (.inr (some 14)), .inr (.inr (some 31))]) (w' := (SH, dt153)) rfl ?_
  refine go_callq PM4 PM42 (Q' := _) rfl rfl rfl rfl (sp_X2_copyFrom_31 L xs sio (d + 0) dt153 hI154   ) ?_
  rintro _ _ ⟨dt173, rfl, hI174, hF175, h172⟩
  refine ⟨rfl, ?_⟩
  have hF176 : Fr [18, 19, 20, 21, 22, 23, 24, 25, 26, 27, 28, 29, 30, 31, 32, 33, 34] dt dt173 := Fr_tr hF156 hF175 (by decide)
  have w177 : dt173 18 0 = dt153 18 0 := hF175 18 (by decide) 0
  have w178 : dt173 24 3 = dt153 24 3 := hF175 24 (by decide) 3
  have w179 : dt173 27 3 = dt153 27 3 := hF175 27 (by decide) 3
  have w180 : dt173 29 3 = dt153 29 3 := hF175 29 (by decide) 3
  have w181 : dt173 33 3 = dt153 33 3 := hF175 33 (by decide) 3
  have w182 : dt173 1 0 = dt153 1 0 := hF175 1 (by decide) 0
  have w183 : dt173 7 3 = dt153 7 3 := hF175 7 (by decide) 3
  have w184 : dt173 10 3 = dt153 10 3 := hF175 10 (by decide) 3
  have w185 : dt173 12 3 = dt153 12 3 := hF175 12 (by decide) 3
  have w186 : dt173 14 3 = dt153 14 3 := hF175 14 (by decide) 3
  have w187 : dt173 16 3 = dt153 16 3 := hF175 16 (by decide) 3
  rcases h172 with ⟨rfl, h172⟩
  have T188 : ∀ j : Nat, j < 192 → dt173 19 j = dt 2 j := fun j hj => (hF175 19 (by decide) j).trans (T168 j hj)
  have T189 : ∀ j : Nat, j < 8 → dt173 20 j = dt 3 j := fun j hj => (hF175 20 (by decide) j).trans (T169 j hj)
  have T190 : ∀ j : Nat, j < 60 → dt173 25 j = dt 8 j := fun j hj => (hF175 25 (by decide) j).trans (T170 j hj)
  have T191 : ∀ j : Nat, j < 132 → dt173 26 j = dt 9 j := fun j hj => (hF175 26 (by decide) j).trans (T171 j hj)
  refine go_toq PM4 (k := 4) (pc' := 168) (L' := [some (.inr (.inr (some 18))), some (.inr (.inr (some 1)))]) (st' := [.inr (.inr (some 16)), .inr (.inr (some 33))]) (w' := (SH, dt173)) rfl ?_
  refine go_callq PM4 PM42 (Q' := _) rfl rfl rfl rfl (sp_X2_copyFrom_33 L xs sio (d + 0) dt173 hI174   ) ?_
  rintro _ _ ⟨dt193, rfl, hI194, hF195, h192⟩
  refine ⟨rfl, ?_⟩
  have hF196 : Fr [18, 19, 20, 21, 22, 23, 24, 25, 26, 27, 28, 29, 30, 31, 32, 33, 34] dt dt193 := Fr_tr hF176 hF195 (by decide)
  have w197 : dt193 18 0 = dt173 18 0 := hF195 18 (by decide) 0
  have w198 : dt193 24 3 = dt173 24 3 := hF195 24 (by decide) 3
  have w199 : dt193 27 3 = dt173 27 3 := hF195 27 (by decide) 3
  have w200 : dt193 29 3 = dt173 29 3 := hF195 29 (by decide) 3
  have w201 : dt193 31 3 = dt173 31 3 := hF195 31 (by decide) 3
  have w202 : dt193 1 0 = dt173 1 0 := hF195 1 (by decide) 0
  have w203 : dt193 7 3 = dt173 7 3 := hF195 7 (by decide) 3
  have w204 : dt193 10 3 = dt173 10 3 := hF195 10 (by decide) 3
  have w205 : dt193 12 3 = dt173 12 3 := hF195 12 (by decide) 3
  have w206 : dt193 14 3 = dt173 14 3 := hF195 14 (by decide) 3
  have w207 : dt193 16 3 = dt173 16 3 := hF195 16 (by decide) 3
  rcases h192 with ⟨rfl, h192⟩
  have T208 : ∀ j : Nat, j < 192 → dt193 19 j = dt 2 j := fun j hj => (hF195 19 (by decide) j).trans (T188 j hj)
  have T209 : ∀ j : Nat, j < 8 → dt193 20 j = dt 3 j := fun j hj => (hF195 20 (by decide) j).trans (T189 j hj)
  have T210 : ∀ j : Nat, j < 60 → dt193 25 j = dt 8 j := fun j hj => (hF195 25 (by decide) j).trans (T190 j hj)
  have T211 : ∀ j : Nat, j < 132 → dt193 26 j = dt 9 j := fun j hj => (hF195 26 (by decide) j).trans (T191 j hj)
  refine go_retq PM4 (k := 0) (r := none) (w1 := (SH, dt193)) rfl ?_
  exact ⟨dt193, rfl, hI194, hF196, ⟨rfl, ⟨by first | exact True.intro | with_reducible assumption | rfl | omega | trivial, by first | exact True.intro | with_reducible assumption | rfl | omega | trivial, by first | exact True.intro | with_reducible assumption | rfl | omega | trivial, by first | exact True.intro | with_reducible assumption | rfl | omega | trivial, by first | exact True.intro | with_reducible assumption | rfl | omega | trivial, by first | exact True.intro | with_reducible assumption | rfl | omega | trivial, by exact T208, by exact T209, by exact T210, by exact T211⟩⟩⟩
theorem sp_X5_image_1q (L : Nat) (xs : Nat → Int32) (sio : Option Nat) (d : Nat) (dt : Nat → Nat → Int) (hI : InvC dt)    : GO (am_XX L xs sio) (d + 3) 98 0 [some (.inr (.inr (some 0))), some (.inl 1)] [] (SH, dt) (fun r w2 => ∃ dt2 : Nat → Nat → Int, w2 = (SH, dt2) ∧ InvC dt2 ∧ Fr [0, 18, 19, 20, 21, 22, 23, 24, 25, 26, 27, 28, 29, 30, 31, 32, 33, 34] dt dt2 ∧ ((∃ v : Int, r = some (.inl v) ∧ (0 ≤ v ∧ v ≤ 1) ∧ (v = 1) ∧ (dt2 0 2 = 1) ∧ (dt2 1 0 = dt 1 0) ∧ (dt2 7 3 = dt 7 3) ∧ (dt2 10 3 = dt 10 3) ∧ (dt2 12 3 = dt 12 3) ∧ (dt2 14 3 = dt 14 3) ∧ (dt2 16 3 = dt 16 3) ∧ (dt2 18 0 = dt 1 0) ∧ (dt2 24 3 = dt 7 3) ∧ (dt2 27 3 = dt 10 3) ∧ (dt2 29 3 = dt 12 3) ∧ (dt2 31 3 = dt 14 3) ∧ (dt2 33 3 = dt 16 3) ∧ (∀ j : Nat, j < 192 → dt2 2 j = dt 2 j) ∧ (∀ j : Nat, j < 8 → dt2 3 j = dt 3 j) ∧ (∀ j : Nat, j < 60 → dt2 8 j = dt 8 j) ∧ (∀ j : Nat, j < 132 → dt2 9 j = dt 9 j) ∧ (∀ j : Nat, j < 192 → dt2 19 j = dt 2 j) ∧ (∀ j : Nat, j < 8 → dt2 20 j = dt 3 j) ∧ (∀ j : Nat, j < 60 → dt2 25 j = dt 8 j) ∧ (∀ j : Nat, j < 132 → dt2 26 j = dt 9 j)))) := by
  have hF : Fr [0, 18, 19, 20, 21, 22, 23, 24, 25, 26, 27, 28, 29, 30, 31, 32, 33, 34] dt dt := Fr_refl
  have r1 : 0 ≤ dt 0 2 ∧ dt 0 2 ≤ 1 := InvC_get hI 0 2 rfl rfl
  refine go_toq PM98 (k := 6) (pc' := 12) (L' := [some (.inr (.inr (some 0))), some (.inl 1)]) (st' := [.inr (.inr (some 1)), .inr (.inr (some 18))]) (w' := (SH, dt)) rfl ?_
  refine go_callq PM98 PM4 (Q' := _) rfl rfl rfl rfl (sp_X0_copyFrom_18q L xs sio (d + 0) dt hI   ) ?_
  rintro _ _ ⟨dt3, rfl, hI4, hF5, h2⟩
  refine ⟨rfl, ?_⟩
  have hF6 : Fr [0, 18, 19, 20, 21, 22, 23, 24, 25, 26, 27, 28, 29, 30, 31, 32, 33, 34] dt dt3 := Fr_tr hF hF5 (by decide)
  have w7 : dt3 0 2 = dt 0 2 := hF5 0 (by decide) 2
  have w8 : dt3 1 0 = dt 1 0 := hF5 1 (by decide) 0
  have w9 : dt3 7 3 = dt 7 3 := hF5 7 (by decide) 3
  have w10 : dt3 10 3 = dt 10 3 := hF5 10 (by decide) 3
  have w11 : dt3 12 3 = dt 12 3 := hF5 12 (by decide) 3
  have w12 : dt3 14 3 = dt 14 3 := hF5 14 (by decide) 3
  have w13 : dt3 16 3 = dt 16 3 := hF5 16 (by decide) 3
  rcases h2 with ⟨rfl, h2⟩
  obtain ⟨h2_0, h2_1, h2_2, h2_3, h2_4, h2_5, h2_6, h2_7, h2_8, h2_9⟩ := h2
  refine go_toq PM98 (k := 2) (pc' := 17) (L' := [some (.inr (.inr (some 0))), some (.inl 1)]) (st' := [.inl 1, .inr (.inr (some 0))]) (w' := (SH, dt3)) rfl ?_
  have hI14 : InvC (u2 dt3 0 2 1) := InvC_u2 hI4 (lo := 0) (hi := 1) rfl rfl rfl (by decide) (by decide)
  have hF15 : Fr [0, 18, 19, 20, 21, 22, 23, 24, 25, 26, 27, 28, 29, 30, 31, 32, 33, 34] dt (u2 dt3 0 2 1) := Fr_u2 hF6 (by decide)
  have w16 : (u2 dt3 0 2 1) 0 2 = 1 := rfl
  have w17 : (u2 dt3 0 2 1) 1 0 = dt3 1 0 := rfl
  have w18 : (u2 dt3 0 2 1) 7 3 = dt3 7 3 := rfl
  have w19 : (u2 dt3 0 2 1) 10 3 = dt3 10 3 := rfl
  have w20 : (u2 dt3 0 2 1) 12 3 = dt3 12 3 := rfl
  have w21 : (u2 dt3 0 2 1) 14 3 = dt3 14 3 := rfl
  have w22 : (u2 dt3 0 2 1) 16 3 = dt3 16 3 := rfl
  have w23 : (u2 dt3 0 2 1) 18 0 = dt3 18 0 := rfl
  have w24 : (u2 dt3 0 2 1) 24 3 = dt3 24 3 := rfl
  have w25 : (u2 dt3 0 2 1) 27 3 = dt3 27 3 := rfl
  have w26 : (u2 dt3 0 2 1) 29 3 = dt3 29 3 := rfl
  have w27 : (u2 dt3 0 2 1) 31 3 = dt3 31 3 := rfl
  have w28 : (u2 dt3 0 2 1) 33 3 = dt3 33 3 := rfl
  refine go_smpq PM98 (L' := [some (.inr (.inr (some 0))), some (.inl 1)]) (st' := []) (w' := (SH, (u2 dt3 0 2 1))) rfl rfl (s_pfz rfl rfl rfl rfl (by omega)) ?_
  refine go_retq PM98 (k := 3) (r := some (.inl 1)) (w1 := (SH, (u2 dt3 0 2 1))) rfl ?_
  exact ⟨(u2 dt3 0 2 1), rfl, hI14, hF15, ⟨_, rfl, ⟨by decide, by decide⟩, ⟨by first | exact True.intro | with_reducible assumption | rfl | omega | trivial, by first | exact True.intro | with_reducible assumption | rfl | omega | trivial, by first | exact True.intro | with_reducible assumption | rfl | omega | trivial, by first | exact True.intro | with_reducible assumption | rfl | omega | trivial, by first | exact True.intro | with_reducible assumption | rfl | omega | trivial, by first | exact True.intro | with_reducible assumption | rfl | omega | trivial, by first | exact True.intro | with_reducible assumption | rfl | omega | trivial, by first | exact True.intro | with_reducible assumption | rfl | omega | trivial, by first | exact True.intro | with_reducible assumption | rfl | omega | trivial, by first | exact True.intro | with_reducible assumption | rfl | omega | trivial, by first | exact True.intro | with_reducible assumption | rfl | omega | trivial, by first | exact True.intro | with_reducible assumption | rfl | omega | trivial, by first | exact True.intro | with_reducible assumption | rfl | omega | trivial, by first | exact True.intro | with_reducible assumption | rfl | omega | trivial, by first | exact fun _ _ => rfl | exact hI | exact fun j _ => hF5 2 (by decide) j, by first | exact fun _ _ => rfl | exact hI | exact fun j _ => hF5 3 (by decide) j, by first | exact fun _ _ => rfl | exact hI | exact fun j _ => hF5 8 (by decide) j, by first | exact fun _ _ => rfl | exact hI | exact fun j _ => hF5 9 (by decide) j, by first | exact fun _ _ => rfl | exact h2_6 | exact fun j _ => hF5 19 (by decide) j, by first | exact fun _ _ => rfl | exact h2_7 | exact fun j _ => hF5 20 (by decide) j, by first | exact fun _ _ => rfl | exact h2_8 | exact fun j _ => hF5 25 (by decide) j, by first | exact fun _ _ => rfl | exact h2_9 | exact fun j _ => hF5 26 (by decide) j⟩⟩⟩
theorem sp_X5_image_0q (L : Nat) (xs : Nat → Int32) (sio : Option Nat) (d : Nat) (dt : Nat → Nat → Int) (hI : InvC dt)    : GO (am_XX L xs sio) (d + 3) 98 0 [some (.inr (.inr (some 0))), some (.inl 0)] [] (SH, dt) (fun r w2 => ∃ dt2 : Nat → Nat → Int, w2 = (SH, dt2) ∧ InvC dt2 ∧ Fr [1, 2, 3, 4, 5, 6, 7, 8, 9, 10, 11, 12, 13, 14, 15, 16, 17] dt dt2 ∧ ((∃ v : Int, r = some (.inl v) ∧ (0 ≤ v ∧ v ≤ 1) ∧ (v = 1) ∧ (dt 0 2 = 1) ∧ (dt2 0 2 = 1) ∧ (dt2 1 0 = dt 18 0) ∧ (dt2 7 3 = dt 24 3) ∧ (dt2 10 3 = dt 27 3) ∧ (dt2 12 3 = dt 29 3) ∧ (dt2 14 3 = dt 31 3) ∧ (dt2 16 3 = dt 33 3) ∧ (dt2 18 0 = dt 18 0) ∧ (dt2 24 3 = dt 24 3) ∧ (dt2 27 3 = dt 27 3) ∧ (dt2 29 3 = dt 29 3) ∧ (dt2 31 3 = dt 31 3) ∧ (dt2 33 3 = dt 33 3) ∧ (∀ j : Nat, j < 192 → dt2 2 j = dt 19 j) ∧ (∀ j : Nat, j < 8 → dt2 3 j = dt 20 j) ∧ (∀ j : Nat, j < 60 → dt2 8 j = dt 25 j) ∧ (∀ j : Nat, j < 132 → dt2 9 j = dt 26 j) ∧ (∀ j : Nat, j < 192 → dt2 19 j = dt 19 j) ∧ (∀ j : Nat, j < 8 → dt2 20 j = dt 20 j) ∧ (∀ j : Nat, j < 60 → dt2 25 j = dt 25 j) ∧ (∀ j : Nat, j < 132 → dt2 26 j = dt 26 j)) ∨ (∃ v : Int, r = some (.inl v) ∧ (0 ≤ v ∧ v ≤ 1) ∧ (v = 0) ∧ (dt 0 2 = 0) ∧ (dt2 0 2 = 0) ∧ (dt2 1 0 = dt 1 0) ∧ (dt2 7 3 = dt 7 3) ∧ (dt2 10 3 = dt 10 3) ∧ (dt2 12 3 = dt 12 3) ∧ (dt2 14 3 = dt 14 3) ∧ (dt2 16 3 = dt 16 3) ∧ (dt2 18 0 = dt 18 0) ∧ (dt2 24 3 = dt 24 3) ∧ (dt2 27 3 = dt 27 3) ∧ (dt2 29 3 = dt 29 3) ∧ (dt2 31 3 = dt 31 3) ∧ (dt2 33 3 = dt 33 3) ∧ (∀ j : Nat, j < 192 → dt2 2 j = dt 2 j) ∧ (∀ j : Nat, j < 8 → dt2 3 j = dt 3 j) ∧ (∀ j : Nat, j < 60 → dt2 8 j = dt 8 j) ∧ (∀ j : Nat, j < 132 → dt2 9 j = dt 9 j) ∧ (∀ j : Nat, j < 192 → dt2 19 j = dt 19 j) ∧ (∀ j : Nat, j < 8 → dt2 20 j = dt 20 j) ∧ (∀ j : Nat, j < 60 → dt2 25 j = dt 25 j) ∧ (∀ j : Nat, j < 132 → dt2 26 j = dt 26 j)))) := by
  have hF : Fr [1, 2, 3, 4, 5, 6, 7, 8, 9, 10, 11, 12, 13, 14, 15, 16, 17] dt dt := Fr_refl
  have r1 : 0 ≤ dt 0 2 ∧ dt 0 2 ≤ 1 := InvC_get hI 0 2 rfl rfl
  refine go_ifq PM98 (k := 4) (p1 := 41) (p2 := 30) (L' := [some (.inr (.inr (some 0))), some (.inl 0)]) (st' := []) (w' := (SH, dt)) rfl (z_eq (a := dt 0 2) (by first | exact bnd r1 (by decide) (by decide) | exact ⟨by omega, by omega⟩)) (fun c2 => ?_) (fun c2 => ?_)
  · skip
    refine go_toq PM98 (k := 2) (pc' := 45) (L' := [some (.inr (.inr (some 0))), some (.inl 0)]) (st' := [.inl (dt 0 2)]) (w' := (SH, dt)) rfl ?_
    refine go_retvq PM98 (v := dt 0 2) rfl (decide_eq_true (show dt 0 2 = 0 ∨ dt 0 2 = 1 by omega)) ?_
    first | exact ⟨dt, rfl, hI, hF, (Or.inl ⟨_, rfl, ⟨by omega, by omega⟩, ⟨by first | exact True.intro | with_reducible assumption | rfl | omega | trivial, by first | exact True.intro | with_reducible assumption | rfl | omega | trivial, by first | exact True.intro | with_reducible assumption | rfl | omega | trivial, by first | exact True.intro | with_reducible assumption | rfl | omega | trivial, by first | exact True.intro | with_reducible assumption | rfl | omega | trivial, by first | exact True.intro | with_reducible assumption | rfl | omega | trivial, by first | exact True.intro | with_reducible assumption | rfl | omega | trivial, by first | exact True.intro | with_reducible assumption | rfl | omega | trivial, by first | exact True.intro | with_reducible assumption | rfl | omega | trivial, by first | exact True.intro | with_reducible assumption | rfl | omega | trivial, by first | exact True.intro | with_reducible assumption | rfl | omega | trivial, by first | exact True.intro | with_reducible assumption | rfl | omega | trivial, by first | exact True.intro | with_reducible assumption | rfl | omega | trivial, by first | exact True.intro | with_reducible assumption | rfl | omega | trivial, by first | exact True.intro | with_reducible assumption | rfl | omega | trivial, by first | exact fun _ _ => rfl | exact hI | exact fun j _ => hI 2 (by decide) j, by first | exact fun _ _ => rfl | exact hI | exact fun j _ => hI 3 (by decide) j, by first | exact fun _ _ => rfl | exact hI | exact fun j _ => hI 8 (by decide) j, by first | exact fun _ _ => rfl | exact hI | exact fun j _ => hI 9 (by decide) j, by first | exact fun _ _ => rfl | exact hI | exact fun j _ => hI 19 (by decide) j, by first | exact fun _ _ => rfl | exact hI | exact fun j _ => hI 20 (by decide) j, by first | exact fun _ _ => rfl | exact hI | exact fun j _ => hI 25 (by decide) j, by first | exact fun _ _ => rfl | exact hI | exact fun j _ => hI 26 (by decide) j⟩⟩)⟩ | exact ⟨dt, rfl, hI, hF, (Or.inr ⟨_, rfl, ⟨by omega, by omega⟩, ⟨by first | exact True.intro | with_reducible assumption | rfl | omega | trivial, by first | exact True.intro | with_reducible assumption | rfl | omega | trivial, by first | exact True.intro | with_reducible assumption | rfl | omega | trivial, by first | exact True.intro | with_reducible assumption | rfl | omega | trivial, by first | exact True.intro | with_reducible assumption | rfl | omega | trivial, by first | exact True.intro | with_reducible assumption | rfl | omega | trivial, by first | exact True.intro | with_reducible assumption | rfl | omega | trivial, by first | exact True.intro | with_reducible assumption | rfl | omega | trivial, by first | exact True.intro | with_reducible assumption | rfl | omega | trivial, by first | exact True.intro | with_reducible assumption | rfl | omega | trivial, by first | exact True.intro | with_reducible assumption | rfl | omega | trivial, by first | exact True.intro | with_reducible assumption | rfl | omega | trivial, by first | exact True.intro | with_reducible assumption | rfl | omega | trivial, by first | exact True.intro | with_reducible assumption | rfl | omega | trivial, by first | exact True.intro | with_reducible assumption | rfl | omega | trivial, by first | exact fun _ _ => rfl | exact hI | exact fun j _ => hI 2 (by decide) j, by first | exact fun _ _ => rfl | exact hI | exact fun j _ => hI 3 (by decide) j, by first | exact fun _ _ => rfl | exact hI | exact fun j _ => hI 8 (by decide) j, by first | exact fun _ _ => rfl | exact hI | exact fun j _ => hI 9 (by decide) j, by first | exact fun _ _ => rfl | exact hI | exact fun j _ => hI 19 (by decide) j, by first | exact fun _ _ => rfl | exact hI | exact fun j _ => hI 20 (by decide) j, by first | exact fun _ _ => rfl | exact hI | exact fun j _ => hI 25 (by decide) j, by first | exact fun _ _ => rfl | exact hI | exact fun j _ => hI 26 (by decide) j⟩⟩)⟩
  · skip
    have qc2 : 1 ≤ dt 0 2 := by omega
    replace c2 := hid c2
    refine go_toq PM98 (k := 4) (pc' := 38) (L' := [some (.inr (.inr (some 0))), some (.inl 0)]) (st' := [.inr (.inr (some 18)), .inr (.inr (some 1))]) (w' := (SH, dt)) rfl ?_
    refine go_callq PM98 PM4 (Q' := _) rfl rfl rfl rfl (sp_X0_copyFrom_1q L xs sio (d + 0) dt hI   ) ?_
    rintro _ _ ⟨dt4, rfl, hI5, hF6, h3⟩
    refine ⟨rfl, ?_⟩
    have hF7 : Fr [1, 2, 3, 4, 5, 6, 7, 8, 9, 10, 11, 12, 13, 14, 15, 16, 17] dt dt4 := Fr_tr hF hF6 (by decide)
    have w8 : dt4 0 2 = dt 0 2 := hF6 0 (by decide) 2
    have w9 : dt4 18 0 = dt 18 0 := hF6 18 (by decide) 0
    have w10 : dt4 24 3 = dt 24 3 := hF6 24 (by decide) 3
    have w11 : dt4 27 3 = dt 27 3 := hF6 27 (by decide) 3
    have w12 : dt4 29 3 = dt 29 3 := hF6 29 (by decide) 3
    have w13 : dt4 31 3 = dt 31 3 := hF6 31 (by decide) 3
    have w14 : dt4 33 3 = dt 33 3 := hF6 33 (by decide) 3
    rcases h3 with ⟨rfl, h3⟩
    obtain ⟨h3_0, h3_1, h3_2, h3_3, h3_4, h3_5, h3_6, h3_7, h3_8, h3_9⟩ := h3
    have r15 : 0 ≤ dt4 0 2 ∧ dt4 0 2 ≤ 1 := InvC_get hI5 0 2 rfl rfl
    refine go_toq PM98 (k := 2) (pc' := 45) (L' := [some (.inr (.inr (some 0))), some (.inl 0)]) (st' := [.inl (dt4 0 2)]) (w' := (SH, dt4)) rfl ?_
    refine go_retvq PM98 (v := dt4 0 2) rfl (decide_eq_true (show dt4 0 2 = 0 ∨ dt4 0 2 = 1 by (first | omega | (have z0_ := unhid c2; omega)))) ?_
    first | exact ⟨dt4, rfl, hI5, hF7, (Or.inl ⟨_, rfl, ⟨by (first | omega | (have z0_ := unhid c2; omega)), by (first | omega | (have z0_ := unhid c2; omega))⟩, ⟨by first | exact True.intro | with_reducible assumption | exact unhid (by with_reducible assumption) | rfl | (first | omega | (have z0_ := unhid c2; omega)) | trivial, by first | exact True.intro | with_reducible assumption | exact unhid (by with_reducible assumption) | rfl | (first | omega | (have z0_ := unhid c2; omega)) | trivial, by first | exact True.intro | with_reducible assumption | exact unhid (by with_reducible assumption) | rfl | (first | omega | (have z0_ := unhid c2; omega)) | trivial, by first | exact True.intro | with_reducible assumption | exact unhid (by with_reducible assumption) | rfl | (first | omega | (have z0_ := unhid c2; omega)) | trivial, by first | exact True.intro | with_reducible assumption | exact unhid (by with_reducible assumption) | rfl | (first | omega | (have z0_ := unhid c2; omega)) | trivial, by first | exact True.intro | with_reducible assumption | exact unhid (by with_reducible assumption) | rfl | (first | omega | (have z0_ := unhid c2; omega)) | trivial, by first | exact True.intro | with_reducible assumption | exact unhid (by with_reducible assumption) | rfl | (first | omega | (have z0_ := unhid c2; omega)) | trivial, by first | exact True.intro | with_reducible assumption | exact unhid (by with_reducible assumption) | rfl | (first | omega | (have z0_ := unhid c2; omega)) | trivial, by first | exact True.intro | with_reducible assumption | exact unhid (by with_reducible assumption) | rfl | (first | omega | (have z0_ := unhid c2; omega)) | trivial, by first | exact True.intro | with_reducible assumption | exact unhid (by with_reducible assumption) | rfl | (first | omega | (have z0_ := unhid c2; omega)) | trivial, by first | exact True.intro | with_reducible assumption | exact unhid (by with_reducible assumption) | rfl | (first | omega | (have z0_ := unhid c2; omega)) | trivial, by first | exact True.intro | with_reducible assumption | exact unhid (by with_reducible assumption) | rfl | (first | omega | (have z0_ := unhid c2; omega)) | trivial, by first | exact True.intro | with_reducible assumption | exact unhid (by with_reducible assumption) | rfl | (first | omega | (have z0_ := unhid c2; omega)) | trivial, by first | exact True.intro | with_reducible assumption | exact unhid (by with_reducible assumption) | rfl | (first | omega | (have z0_ := unhid c2; omega)) | trivial, by first | exact True.intro | with_reducible assumption | exact unhid (by with_reducible assumption) | rfl | (first | omega | (have z0_ := unhid c2; omega)) | trivial, by first | exact fun _ _ => rfl | exact h3_6 | exact fun j _ => hF6 2 (by decide) j, by first | exact fun _ _ => rfl | exact h3_7 | exact fun j _ => hF6 3 (by decide) j, by first | exact fun _ _ => rfl | exact h3_8 | exact fun j _ => hF6 8 (by decide) j, by first | exact fun _ _ => rfl | exact h3_9 | exact fun j _ => hF6 9 (by decide) j, by first | exact fun _ _ => rfl | exact hI | exact fun j _ => hF6 19 (by decide) j, by first | exact fun _ _ => rfl | exact hI | exact fun j _ => hF6 20 (by decide) j, by first | exact fun _ _ => rfl | exact hI | exact fun j _ => hF6 25 (by decide) j, by first | exact fun _ _ => rfl | exact hI | exact fun j _ => hF6 26 (by decide) j⟩⟩)⟩ | exact ⟨dt4, rfl, hI5, hF7, (Or.inr ⟨_, rfl, ⟨by (first | omega | (have z0_ := unhid c2; omega)), by (first | omega | (have z0_ := unhid c2; omega))⟩, ⟨by first | exact True.intro | with_reducible assumption | exact unhid (by with_reducible assumption) | rfl | (first | omega | (have z0_ := unhid c2; omega)) | trivial, by first | exact True.intro | with_reducible assumption | exact unhid (by with_reducible assumption) | rfl | (first | omega | (have z0_ := unhid c2; omega)) | trivial, by first | exact True.intro | with_reducible assumption | exact unhid (by with_reducible assumption) | rfl | (first | omega | (have z0_ := unhid c2; omega)) | trivial, by first | exact True.intro | with_reducible assumption | exact unhid (by with_reducible assumption) | rfl | (first | omega | (have z0_ := unhid c2; omega)) | trivial, by first | exact True.intro | with_reducible assumption | exact unhid (by with_reducible assumption) | rfl | (first | omega | (have z0_ := unhid c2; omega)) | trivial, by first | exact True.intro | with_reducible assumption | exact unhid (by with_reducible assumption) | rfl | (first | omega | (have z0_ := unhid c2; omega)) | trivial, by first | exact True.intro | with_reducible assumption | exact unhid (by with_reducible assumption) | rfl | (first | omega | (have z0_ := unhid c2; omega)) | trivial, by first | exact True.intro | with_reducible assumption | exact unhid (by with_reducible assumption) | rfl | (first | omega | (have z0_ := unhid c2; omega)) | trivial, by first | exact True.intro | with_reducible assumption | exact unhid (by with_reducible assumption) | rfl | (first | omega | (have z0_ := unhid c2; omega)) | trivial, by first | exact True.intro | with_reducible assumption | exact unhid (by with_reducible assumption) | rfl | (first | omega | (have z0_ := unhid c2; omega)) | trivial, by first | exact True.intro | with_reducible assumption | exact unhid (by with_reducible assumption) | rfl | (first | omega | (have z0_ := unhid c2; omega)) | trivial, by first | exact True.intro | with_reducible assumption | exact unhid (by with_reducible assumption) | rfl | (first | omega | (have z0_ := unhid c2; omega)) | trivial, by first | exact True.intro | with_reducible assumption | exact unhid (by with_reducible assumption) | rfl | (first | omega | (have z0_ := unhid c2; omega)) | trivial, by first | exact True.intro | with_reducible assumption | exact unhid (by with_reducible assumption) | rfl | (first | omega | (have z0_ := unhid c2; omega)) | trivial, by first | exact True.intro | with_reducible assumption | exact unhid (by with_reducible assumption) | rfl | (first | omega | (have z0_ := unhid c2; omega)) | trivial, by first | exact fun _ _ => rfl | exact h3_6 | exact fun j _ => hF6 2 (by decide) j, by first | exact fun _ _ => rfl | exact h3_7 | exact fun j _ => hF6 3 (by decide) j, by first | exact fun _ _ => rfl | exact h3_8 | exact fun j _ => hF6 8 (by decide) j, by first | exact fun _ _ => rfl | exact h3_9 | exact fun j _ => hF6 9 (by decide) j, by first | exact fun _ _ => rfl | exact hI | exact fun j _ => hF6 19 (by decide) j, by first | exact fun _ _ => rfl | exact hI | exact fun j _ => hF6 20 (by decide) j, by first | exact fun _ _ => rfl | exact hI | exact fun j _ => hF6 25 (by decide) j, by first | exact fun _ _ => rfl | exact hI | exact fun j _ => hF6 26 (by decide) j⟩⟩)⟩
