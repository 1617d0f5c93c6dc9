theorem sp_X2_set_12_0 (L : Nat) (xs : Nat → Int32) (sio : Option Nat) (d : Nat) (dt : Nat → Nat → Int) (hI : InvC dt)  (p2 : Int) (h_p2 : (-2147483648) ≤ p2 ∧ p2 ≤ 2147483647) (h_p0 : 0 < dt 12 3) : GO (am_XX L xs sio) (d) 41 0 [some (.inr (.inr (some 12))), some (.inl 0), some (.inl p2)] [] (SH, dt) (fun r w2 => ∃ dt2 : Nat → Nat → Int, w2 = (SH, dt2) ∧ InvC dt2 ∧ Fr [13] dt dt2 ∧ ((r = none ∧ (∀ j : Nat, ¬ (j : Int) = ((dt 12 3) - 1) * 6 + 0 → dt2 13 j = dt 13 j) ∧ (dt2 13 ((((dt 12 3) - 1) * 6) + 0).toNat = p2)))) := by
  have hF : Fr [13] dt dt := Fr_refl
  have r1 : 0 ≤ dt 12 3 ∧ dt 12 3 ≤ 300 := InvC_get hI 12 3 rfl rfl
  refine go_ifq PM41 (k := 2) (p1 := 34) (p2 := 7) (L' := [some (.inr (.inr (some 12))), some (.inl 0), some (.inl p2)]) (st' := []) (w' := (SH, dt)) rfl (z_le (a := dt 12 3) (by first | exact bnd r1 (by decide) (by decide) | exact ⟨by omega, by omega⟩)) (fun c2 => ?_) (fun c2 => ?_)
  · skip
    refine go_retq PM41 (k := 0) (r := none) (w1 := (SH, dt)) rfl ?_
    exact ⟨dt, rfl, hI, hF, ⟨rfl, ⟨by intro j hj; first | exact u2_ne (by omega) | (exfalso; omega), by first | exact u2_eq | (exfalso; omega)⟩⟩⟩
  · skip
    refine go_toq PM41 (k := 2) (pc' := 9) (L' := [some (.inr (.inr (some 12))), some (.inl 0), some (.inl p2)]) (st' := [.inr (.inr (some 12)), .inl 0]) (w' := (SH, dt)) rfl ?_
    refine go_smpq PM41 (L' := [some (.inr (.inr (some 12))), some (.inl 0), some (.inl p2)]) (st' := [.inl 6, .inl 0]) (w' := (SH, dt)) rfl rfl (s_gfc rfl rfl rfl (hI.2 12 1 rfl)) ?_
    refine go_toq PM41 (k := 8) (pc' := 26) (L' := [some (.inr (.inr (some 12))), some (.inl 0), some (.inl p2)]) (st' := [.inr (.inr (some 12)), .inl ((dt 12 3) - 1), .inr (.inr (some 13))]) (w' := (SH, dt)) rfl ?_
    refine go_smpq PM41 (L' := [some (.inr (.inr (some 12))), some (.inl 0), some (.inl p2)]) (st' := [.inl 6, .inl ((dt 12 3) - 1), .inr (.inr (some 13))]) (w' := (SH, dt)) rfl rfl (s_gfc rfl rfl rfl (hI.2 12 1 rfl)) ?_
    refine go_toq PM41 (k := 4) (pc' := 33) (L' := [some (.inr (.inr (some 12))), some (.inl 0), some (.inl p2)]) (st' := [.inl p2, .inl ((((dt 12 3) - 1) * 6) + 0), .inr (.inr (some 13))]) (w' := (SH, dt)) rfl ?_
    have hI3 : InvC (u2 dt 13 (((((dt 12 3) - 1) * 6) + 0).toNat) p2) := InvC_u2 hI (lo := -2147483648) (hi := 2147483647) rfl rfl rfl (by first | exact bnd1 h_p2 (by decide) | omega) (by first | exact bnd2 h_p2 (by decide) | omega)
    have hF4 : Fr [13] dt (u2 dt 13 (((((dt 12 3) - 1) * 6) + 0).toNat) p2) := Fr_u2 hF (by decide)
    refine go_smpq PM41 (L' := [some (.inr (.inr (some 12))), some (.inl 0), some (.inl p2)]) (st' := []) (w' := (SH, (u2 dt 13 (((((dt 12 3) - 1) * 6) + 0).toNat) p2))) rfl rfl (s_iast (n := 1800) rfl ⟨by omega, by omega⟩ (by first | exact bnd h_p2 (by decide) (by decide) | exact ⟨by omega, by omega⟩)) ?_
    refine go_retq PM41 (k := 0) (r := none) (w1 := (SH, (u2 dt 13 (((((dt 12 3) - 1) * 6) + 0).toNat) p2))) rfl ?_
    exact ⟨(u2 dt 13 (((((dt 12 3) - 1) * 6) + 0).toNat) p2), rfl, hI3, hF4, ⟨rfl, ⟨by intro j hj; first | exact u2_ne (by omega) | (exfalso; omega), by first | exact u2_eq | (exfalso; omega)⟩⟩⟩
theorem sp_X2_set_12_1 (L : Nat) (xs : Nat → Int32) (sio : Option Nat) (d : Nat) (dt : Nat → Nat → Int) (hI : InvC dt)  (p2 : Int) (h_p2 : (-2147483648) ≤ p2 ∧ p2 ≤ 2147483647) (h_p0 : 0 < dt 12 3) : GO (am_XX L xs sio) (d) 41 0 [some (.inr (.inr (some 12))), some (.inl 1), some (.inl p2)] [] (SH, dt) (fun r w2 => ∃ dt2 : Nat → Nat → Int, w2 = (SH, dt2) ∧ InvC dt2 ∧ Fr [13] dt dt2 ∧ ((r = none ∧ (∀ j : Nat, ¬ (j : Int) = ((dt 12 3) - 1) * 6 + 1 → dt2 13 j = dt 13 j) ∧ (dt2 13 ((((dt 12 3) - 1) * 6) + 1).toNat = p2)))) := by
  have hF : Fr [13] dt dt := Fr_refl
  have r1 : 0 ≤ dt 12 3 ∧ dt 12 3 ≤ 300 := InvC_get hI 12 3 rfl rfl
  refine go_ifq PM41 (k := 2) (p1 := 34) (p2 := 7) (L' := [some (.inr (.inr (some 12))), some (.inl 1), some (.inl p2)]) (st' := []) (w' := (SH, dt)) rfl (z_le (a := dt 12 3) (by first | exact bnd r1 (by decide) (by decide) | exact ⟨by omega, by omega⟩)) (fun c2 => ?_) (fun c2 => ?_)
  · skip
    refine go_retq PM41 (k := 0) (r := none) (w1 := (SH, dt)) rfl ?_
    exact ⟨dt, rfl, hI, hF, ⟨rfl, ⟨by intro j hj; first | exact u2_ne (by omega) | (exfalso; omega), by first | exact u2_eq | (exfalso; omega)⟩⟩⟩
  · skip
    refine go_toq PM41 (k := 2) (pc' := 9) (L' := [some (.inr (.inr (some 12))), some (.inl 1), some (.inl p2)]) (st' := [.inr (.inr (some 12)), .inl 1]) (w' := (SH, dt)) rfl ?_
    refine go_smpq PM41 (L' := [some (.inr (.inr (some 12))), some (.inl 1), some (.inl p2)]) (st' := [.inl 6, .inl 1]) (w' := (SH, dt)) rfl rfl (s_gfc rfl rfl rfl (hI.2 12 1 rfl)) ?_
    refine go_toq PM41 (k := 8) (pc' := 26) (L' := [some (.inr (.inr (some 12))), some (.inl 1), some (.inl p2)]) (st' := [.inr (.inr (some 12)), .inl ((dt 12 3) - 1), .inr (.inr (some 13))]) (w' := (SH, dt)) rfl ?_
    refine go_smpq PM41 (L' := [some (.inr (.inr (some 12))), some (.inl 1), some (.inl p2)]) (st' := [.inl 6, .inl ((dt 12 3) - 1), .inr (.inr (some 13))]) (w' := (SH, dt)) rfl rfl (s_gfc rfl rfl rfl (hI.2 12 1 rfl)) ?_
    refine go_toq PM41 (k := 4) (pc' := 33) (L' := [some (.inr (.inr (some 12))), some (.inl 1), some (.inl p2)]) (st' := [.inl p2, .inl ((((dt 12 3) - 1) * 6) + 1), .inr (.inr (some 13))]) (w' := (SH, dt)) rfl ?_
    have hI3 : InvC (u2 dt 13 (((((dt 12 3) - 1) * 6) + 1).toNat) p2) := InvC_u2 hI (lo := -2147483648) (hi := 2147483647) rfl rfl rfl (by first | exact bnd1 h_p2 (by decide) | omega) (by first | exact bnd2 h_p2 (by decide) | omega)
    have hF4 : Fr [13] dt (u2 dt 13 (((((dt 12 3) - 1) * 6) + 1).toNat) p2) := Fr_u2 hF (by decide)
    refine go_smpq PM41 (L' := [some (.inr (.inr (some 12))), some (.inl 1), some (.inl p2)]) (st' := []) (w' := (SH, (u2 dt 13 (((((dt 12 3) - 1) * 6) + 1).toNat) p2))) rfl rfl (s_iast (n := 1800) rfl ⟨by omega, by omega⟩ (by first | exact bnd h_p2 (by decide) (by decide) | exact ⟨by omega, by omega⟩)) ?_
    refine go_retq PM41 (k := 0) (r := none) (w1 := (SH, (u2 dt 13 (((((dt 12 3) - 1) * 6) + 1).toNat) p2))) rfl ?_
    exact ⟨(u2 dt 13 (((((dt 12 3) - 1) * 6) + 1).toNat) p2), rfl, hI3, hF4, ⟨rfl, ⟨by intro j hj; first | exact u2_ne (by omega) | (exfalso; omega), by first | exact u2_eq | (exfalso; omega)⟩⟩⟩
theorem sp_X2_set_12_2 (L : Nat) (xs : Nat → Int32) (sio : Option Nat) (d : Nat) (dt : Nat → Nat → Int) (hI : InvC dt)  (p2 : Int) (h_p2 : (-2147483648) ≤ p2 ∧ p2 ≤ 2147483647) (h_p0 : 0 < dt 12 3) : GO (am_XX L xs sio) (d) 41 0 [some (.inr (.inr (some 12))), some (.inl 2), some (.inl p2)] [] (SH, dt) (fun r w2 => ∃ dt2 : Nat → Nat → Int, w2 = (SH, dt2) ∧ InvC dt2 ∧ Fr [13] dt dt2 ∧ ((r = none ∧ (∀ j : Nat, ¬ (j : Int) = ((dt 12 3) - 1) * 6 + 2 → dt2 13 j = dt 13 j) ∧ (dt2 13 ((((dt 12 3) - 1) * 6) + 2).toNat = p2)))) := by
  have hF : Fr [13] dt dt := Fr_refl
  have r1 : 0 ≤ dt 12 3 ∧ dt 12 3 ≤ 300 := InvC_get hI 12 3 rfl rfl
  refine go_ifq PM41 (k := 2) (p1 := 34) (p2 := 7) (L' := [some (.inr (.inr (some 12))), some (.inl 2), some (.inl p2)]) (st' := []) (w' := (SH, dt)) rfl (z_le (a := dt 12 3) (by first | exact bnd r1 (by decide) (by decide) | exact ⟨by omega, by omega⟩)) (fun c2 => ?_) (fun c2 => ?_)
  · skip
    refine go_retq PM41 (k := 0) (r := none) (w1 := (SH, dt)) rfl ?_
    exact ⟨dt, rfl, hI, hF, ⟨rfl, ⟨by intro j hj; first | exact u2_ne (by omega) | (exfalso; omega), by first | exact u2_eq | (exfalso; omega)⟩⟩⟩
  · skip
    refine go_toq PM41 (k := 2) (pc' := 9) (L' := [some (.inr (.inr (some 12))), some (.inl 2), some (.inl p2)]) (st' := [.inr (.inr (some 12)), .inl 2]) (w' := (SH, dt)) rfl ?_
    refine go_smpq PM41 (L' := [some (.inr (.inr (some 12))), some (.inl 2), some (.inl p2)]) (st' := [.inl 6, .inl 2]) (w' := (SH, dt)) rfl rfl (s_gfc rfl rfl rfl (hI.2 12 1 rfl)) ?_
    refine go_toq PM41 (k := 8) (pc' := 26) (L' := [some (.inr (.inr (some 12))), some (.inl 2), some (.inl p2)]) (st' := [.inr (.inr (some 12)), .inl ((dt 12 3) - 1), .inr (.inr (some 13))]) (w' := (SH, dt)) rfl ?_
    refine go_smpq PM41 (L' := [some (.inr (.inr (some 12))), some (.inl 2), some (.inl p2)]) (st' := [.inl 6, .inl ((dt 12 3) - 1), .inr (.inr (some 13))]) (w' := (SH, dt)) rfl rfl (s_gfc rfl rfl rfl (hI.2 12 1 rfl)) ?_
    refine go_toq PM41 (k := 4) (pc' := 33) (L' := [some (.inr (.inr (some 12))), some (.inl 2), some (.inl p2)]) (st' := [.inl p2, .inl ((((dt 12 3) - 1) * 6) + 2), .inr (.inr (some 13))]) (w' := (SH, dt)) rfl ?_
    have hI3 : InvC (u2 dt 13 (((((dt 12 3) - 1) * 6) + 2).toNat) p2) := InvC_u2 hI (lo := -2147483648) (hi := 2147483647) rfl rfl rfl (by first | exact bnd1 h_p2 (by decide) | omega) (by first | exact bnd2 h_p2 (by decide) | omega)
    have hF4 : Fr [13] dt (u2 dt 13 (((((dt 12 3) - 1) * 6) + 2).toNat) p2) := Fr_u2 hF (by decide)
    refine go_smpq PM41 (L' := [some (.inr (.inr (some 12))), some (.inl 2), some (.inl p2)]) (st' := []) (w' := (SH, (u2 dt 13 (((((dt 12 3) - 1) * 6) + 2).toNat) p2))) rfl rfl (s_iast (n := 1800) rfl ⟨by omega, by omega⟩ (by first | exact bnd h_p2 (by decide) (by decide) | exact ⟨by omega, by omega⟩)) ?_
    refine go_retq PM41 (k := 0) (r := none) (w1 := (SH, (u2 dt 13 (((((dt 12 3) - 1) * 6) + 2).toNat) p2))) rfl ?_
    exact ⟨(u2 dt 13 (((((dt 12 3) - 1) * 6) + 2).toNat) p2), rfl, hI3, hF4, ⟨rfl, ⟨by intro j hj; first | exact u2_ne (by omega) | (exfalso; omega), by first | exact u2_eq | (exfalso; omega)⟩⟩⟩
theorem sp_X2_set_12_3 (L : Nat) (xs : Nat → Int32) (sio : Option Nat) (d : Nat) (dt : Nat → Nat → Int) (hI : InvC dt)  (p2 : Int) (h_p2 : (-2147483648) ≤ p2 ∧ p2 ≤ 2147483647) (h_p0 : 0 < dt 12 3) : GO (am_XX L xs sio) (d) 41 0 [some (.inr (.inr (some 12))), some (.inl 3), some (.inl p2)] [] (SH, dt) (fun r w2 => ∃ dt2 : Nat → Nat → Int, w2 = (SH, dt2) ∧ InvC dt2 ∧ Fr [13] dt dt2 ∧ ((r = none ∧ (∀ j : Nat, ¬ (j : Int) = ((dt 12 3) - 1) * 6 + 3 → dt2 13 j = dt 13 j) ∧ (dt2 13 ((((dt 12 3) - 1) * 6) + 3).toNat = p2)))) := by
  have hF : Fr [13] dt dt := Fr_refl
  have r1 : 0 ≤ dt 12 3 ∧ dt 12 3 ≤ 300 := InvC_get hI 12 3 rfl rfl
  refine go_ifq PM41 (k := 2) (p1 := 34) (p2 := 7) (L' := [some (.inr (.inr (some 12))), some (.inl 3), some (.inl p2)]) (st' := []) (w' := (SH, dt)) rfl (z_le (a := dt 12 3) (by first | exact bnd r1 (by decide) (by decide) | exact ⟨by omega, by omega⟩)) (fun c2 => ?_) (fun c2 => ?_)
  · skip
    refine go_retq PM41 (k := 0) (r := none) (w1 := (SH, dt)) rfl ?_
    exact ⟨dt, rfl, hI, hF, ⟨rfl, ⟨by intro j hj; first | exact u2_ne (by omega) | (exfalso; omega), by first | exact u2_eq | (exfalso; omega)⟩⟩⟩
  · skip
    refine go_toq PM41 (k := 2) (pc' := 9) (L' := [some (.inr (.inr (some 12))), some (.inl 3), some (.inl p2)]) (st' := [.inr (.inr (some 12)), .inl 3]) (w' := (SH, dt)) rfl ?_
    refine go_smpq PM41 (L' := [some (.inr (.inr (some 12))), some (.inl 3), some (.inl p2)]) (st' := [.inl 6, .inl 3]) (w' := (SH, dt)) rfl rfl (s_gfc rfl rfl rfl (hI.2 12 1 rfl)) ?_
    refine go_toq PM41 (k := 8) (pc' := 26) (L' := [some (.inr (.inr (some 12))), some (.inl 3), some (.inl p2)]) (st' := [.inr (.inr (some 12)), .inl ((dt 12 3) - 1), .inr (.inr (some 13))]) (w' := (SH, dt)) rfl ?_
    refine go_smpq PM41 (L' := [some (.inr (.inr (some 12))), some (.inl 3), some (.inl p2)]) (st' := [.inl 6, .inl ((dt 12 3) - 1), .inr (.inr (some 13))]) (w' := (SH, dt)) rfl rfl (s_gfc rfl rfl rfl (hI.2 12 1 rfl)) ?_
    refine go_toq PM41 (k := 4) (pc' := 33) (L' := [some (.inr (.inr (some 12))), some (.inl 3), some (.inl p2)]) (st' := [.inl p2, .inl ((((dt 12 3) - 1) * 6) + 3), .inr (.inr (some 13))]) (w' := (SH, dt)) rfl ?_
    have hI3 : InvC (u2 dt 13 (((((dt 12 3) - 1) * 6) + 3).toNat) p2) := InvC_u2 hI (lo := -2147483648) (hi := 2147483647) rfl rfl rfl (by first | exact bnd1 h_p2 (by decide) | omega) (by first | exact bnd2 h_p2 (by decide) | omega)
    have hF4 : Fr [13] dt (u2 dt 13 (((((dt 12 3) - 1) * 6) + 3).toNat) p2) := Fr_u2 hF (by decide)
    refine go_smpq PM41 (L' := [some (.inr (.inr (some 12))), some (.inl 3), some (.inl p2)]) (st' := []) (w' := (SH, (u2 dt 13 (((((dt 12 3) - 1) * 6) + 3).toNat) p2))) rfl rfl (s_iast (n := 1800) rfl ⟨by omega, by omega⟩ (by first | exact bnd h_p2 (by decide) (by decide) | exact ⟨by omega, by omega⟩)) ?_
    refine go_retq PM41 (k := 0) (r := none) (w1 := (SH, (u2 dt 13 (((((dt 12 3) - 1) * 6) + 3).toNat) p2))) rfl ?_
    exact ⟨(u2 dt 13 (((((dt 12 3) - 1) * 6) + 3).toNat) p2), rfl, hI3, hF4, ⟨rfl, ⟨by intro j hj; first | exact u2_ne (by omega) | (exfalso; omega), by first | exact u2_eq | (exfalso; omega)⟩⟩⟩
theorem sp_X2_set_12_4 (L : Nat) (xs : Nat → Int32) (sio : Option Nat) (d : Nat) (dt : Nat → Nat → Int) (hI : InvC dt)  (p2 : Int) (h_p2 : (-2147483648) ≤ p2 ∧ p2 ≤ 2147483647) (h_p0 : 0 < dt 12 3) : GO (am_XX L xs sio) (d) 41 0 [some (.inr (.inr (some 12))), some (.inl 4), some (.inl p2)] [] (SH, dt) (fun r w2 => ∃ dt2 : Nat → Nat → Int, w2 = (SH, dt2) ∧ InvC dt2 ∧ Fr [13] dt dt2 ∧ ((r = none ∧ (∀ j : Nat, ¬ (j : Int) = ((dt 12 3) - 1) * 6 + 4 → dt2 13 j = dt 13 j) ∧ (dt2 13 ((((dt 12 3) - 1) * 6) + 4).toNat = p2)))) := by
  have hF : Fr [13] dt dt := Fr_refl
  have r1 : 0 ≤ dt 12 3 ∧ dt 12 3 ≤ 300 := InvC_get hI 12 3 rfl rfl
  refine go_ifq PM41 (k := 2) (p1 := 34) (p2 := 7) (L' := [some (.inr (.inr (some 12))), some (.inl 4), some (.inl p2)]) (st' := []) (w' := (SH, dt)) rfl (z_le (a := dt 12 3) (by first | exact bnd r1 (by decide) (by decide) | exact ⟨by omega, by omega⟩)) (fun c2 => ?_) (fun c2 => ?_)
  · skip
    refine go_retq PM41 (k := 0) (r := none) (w1 := (SH, dt)) rfl ?_
    exact ⟨dt, rfl, hI, hF, ⟨rfl, ⟨by intro j hj; first | exact u2_ne (by omega) | (exfalso; omega), by first | exact u2_eq | (exfalso; omega)⟩⟩⟩
  · skip
    refine go_toq PM41 (k := 2) (pc' := 9) (L' := [some (.inr (.inr (some 12))), some (.inl 4), some (.inl p2)]) (st' := [.inr (.inr (some 12)), .inl 4]) (w' := (SH, dt)) rfl ?_
    refine go_smpq PM41 (L' := [some (.inr (.inr (some 12))), some (.inl 4), some (.inl p2)]) (st' := [.inl 6, .inl 4]) (w' := (SH, dt)) rfl rfl (s_gfc rfl rfl rfl (hI.2 12 1 rfl)) ?_
    refine go_toq PM41 (k := 8) (pc' := 26) (L' := [some (.inr (.inr (some 12))), some (.inl 4), some (.inl p2)]) (st' := [.inr (.inr (some 12)), .inl ((dt 12 3) - 1), .inr (.inr (some 13))]) (w' := (SH, dt)) rfl ?_
    refine go_smpq PM41 (L' := [some (.inr (.inr (some 12))), some (.inl 4), some (.inl p2)]) (st' := [.inl 6, .inl ((dt 12 3) - 1), .inr (.inr (some 13))]) (w' := (SH, dt)) rfl rfl (s_gfc rfl rfl rfl (hI.2 12 1 rfl)) ?_
    refine go_toq PM41 (k := 4) (pc' := 33) (L' := [some (.inr (.inr (some 12))), some (.inl 4), some (.inl p2)]) (st' := [.inl p2, .inl ((((dt 12 3) - 1) * 6) + 4), .inr (.inr (some 13))]) (w' := (SH, dt)) rfl ?_
    have hI3 : InvC (u2 dt 13 (((((dt 12 3) - 1) * 6) + 4).toNat) p2) := InvC_u2 hI (lo := -2147483648) (hi := 2147483647) rfl rfl rfl (by first | exact bnd1 h_p2 (by decide) | omega) (by first | exact bnd2 h_p2 (by decide) | omega)
    have hF4 : Fr [13] dt (u2 dt 13 (((((dt 12 3) - 1) * 6) + 4).toNat) p2) := Fr_u2 hF (by decide)
    refine go_smpq PM41 (L' := [some (.inr (.inr (some 12))), some (.inl 4), some (.inl p2)]) (st' := []) (w' := (SH, (u2 dt 13 (((((dt 12 3) - 1) * 6) + 4).toNat) p2))) rfl rfl (s_iast (n := 1800) rfl ⟨by omega, by omega⟩ (by first | exact bnd h_p2 (by decide) (by decide) | exact ⟨by omega, by omega⟩)) ?_
    refine go_retq PM41 (k := 0) (r := none) (w1 := (SH, (u2 dt 13 (((((dt 12 3) - 1) * 6) + 4).toNat) p2))) rfl ?_
    exact ⟨(u2 dt 13 (((((dt 12 3) - 1) * 6) + 4).toNat) p2), rfl, hI3, hF4, ⟨rfl, ⟨by intro j hj; first | exact u2_ne (by omega) | (exfalso; omega), by first | exact u2_eq | (exfalso; omega)⟩⟩⟩
theorem sp_X2_set_12_5 (L : Nat) (xs : Nat → Int32) (sio : Option Nat) (d : Nat) (dt : Nat → Nat → Int) (hI : InvC dt)  (p2 : Int) (h_p2 : (-2147483648) ≤ p2 ∧ p2 ≤ 2147483647) (h_p0 : 0 < dt 12 3) : GO (am_XX L xs sio) (d) 41 0 [some (.inr (.inr (some 12))), some (.inl 5), some (.inl p2)] [] (SH, dt) (fun r w2 => ∃ dt2 : Nat → Nat → Int, w2 = (SH, dt2) ∧ InvC dt2 ∧ Fr [13] dt dt2 ∧ ((r = none ∧ (∀ j : Nat, ¬ (j : Int) = ((dt 12 3) - 1) * 6 + 5 → dt2 13 j = dt 13 j) ∧ (dt2 13 ((((dt 12 3) - 1) * 6) + 5).toNat = p2)))) := by
  have hF : Fr [13] dt dt := Fr_refl
  have r1 : 0 ≤ dt 12 3 ∧ dt 12 3 ≤ 300 := InvC_get hI 12 3 rfl rfl
  refine go_ifq PM41 (k := 2) (p1 := 34) (p2 := 7) (L' := [some (.inr (.inr (some 12))), some (.inl 5), some (.inl p2)]) (st' := []) (w' := (SH, dt)) rfl (z_le (a := dt 12 3) (by first | exact bnd r1 (by decide) (by decide) | exact ⟨by omega, by omega⟩)) (fun c2 => ?_) (fun c2 => ?_)
  · skip
    refine go_retq PM41 (k := 0) (r := none) (w1 := (SH, dt)) rfl ?_
    exact ⟨dt, rfl, hI, hF, ⟨rfl, ⟨by intro j hj; first | exact u2_ne (by omega) | (exfalso; omega), by first | exact u2_eq | (exfalso; omega)⟩⟩⟩
  · skip
    refine go_toq PM41 (k := 2) (pc' := 9) (L' := [some (.inr (.inr (some 12))), some (.inl 5), some (.inl p2)]) (st' := [.inr (.inr (some 12)), .inl 5]) (w' := (SH, dt)) rfl ?_
    refine go_smpq PM41 (L' := [some (.inr (.inr (some 12))), some (.inl 5), some (.inl p2)]) (st' := [.inl 6, .inl 5]) (w' := (SH, dt)) rfl rfl (s_gfc rfl rfl rfl (hI.2 12 1 rfl)) ?_
    refine go_toq PM41 (k := 8) (pc' := 26) (L' := [some (.inr (.inr (some 12))), some (.inl 5), some (.inl p2)]) (st' := [.inr (.inr (some 12)), .inl ((dt 12 3) - 1), .inr (.inr (some 13))]) (w' := (SH, dt)) rfl ?_
    refine go_smpq PM41 (L' := [some (.inr (.inr (some 12))), some (.inl 5), some (.inl p2)]) (st' := [.inl 6, .inl ((dt 12 3) - 1), .inr (.inr (some 13))]) (w' := (SH, dt)) rfl rfl (s_gfc rfl rfl rfl (hI.2 12 1 rfl)) ?_
    refine go_toq PM41 (k := 4) (pc' := 33) (L' := [some (.inr (.inr (some 12))), some (.inl 5), some (.inl p2)]) (st' := [.inl p2, .inl ((((dt 12 3) - 1) * 6) + 5), .inr (.inr (some 13))]) (w' := (SH, dt)) rfl ?_
    have hI3 : InvC (u2 dt 13 (((((dt 12 3) - 1) * 6) + 5).toNat) p2) := InvC_u2 hI (lo := -2147483648) (hi := 2147483647) rfl rfl rfl (by first | exact bnd1 h_p2 (by decide) | omega) (by first | exact bnd2 h_p2 (by decide) | omega)
    have hF4 : Fr [13] dt (u2 dt 13 (((((dt 12 3) - 1) * 6) + 5).toNat) p2) := Fr_u2 hF (by decide)
    refine go_smpq PM41 (L' := [some (.inr (.inr (some 12))), some (.inl 5), some (.inl p2)]) (st' := []) (w' := (SH, (u2 dt 13 (((((dt 12 3) - 1) * 6) + 5).toNat) p2))) rfl rfl (s_iast (n := 1800) rfl ⟨by omega, by omega⟩ (by first | exact bnd h_p2 (by decide) (by decide) | exact ⟨by omega, by omega⟩)) ?_
    refine go_retq PM41 (k := 0) (r := none) (w1 := (SH, (u2 dt 13 (((((dt 12 3) - 1) * 6) + 5).toNat) p2))) rfl ?_
    exact ⟨(u2 dt 13 (((((dt 12 3) - 1) * 6) + 5).toNat) p2), rfl, hI3, hF4, ⟨rfl, ⟨by intro j hj; first | exact u2_ne (by omega) | (exfalso; omega), by first | exact u2_eq | (exfalso; omega)⟩⟩⟩
theorem sp_X2_add_12f (L : Nat) (xs : Nat → Int32) (sio : Option Nat) (d : Nat) (dt : Nat → Nat → Int) (hI : InvC dt)  (p1 : Int) (h_p1 : (-2147483648) ≤ p1 ∧ p1 ≤ 2147483647) (p2 : Int) (h_p2 : (-2147483648) ≤ p2 ∧ p2 ≤ 2147483647) (p3 : Int) (h_p3 : (-2147483648) ≤ p3 ∧ p3 ≤ 2147483647) (p4 : Int) (h_p4 : (-2147483648) ≤ p4 ∧ p4 ≤ 2147483647) (p5 : Int) (h_p5 : (-2147483648) ≤ p5 ∧ p5 ≤ 2147483647) (p6 : Int) (h_p6 : (-2147483648) ≤ p6 ∧ p6 ≤ 2147483647)  : GO (am_XX L xs sio) (d + 1) 40 0 [some (.inr (.inr (some 12))), some (.inl p1), some (.inl p2), some (.inl p3), some (.inl p4), some (.inl p5), some (.inl p6)] [] (SH, dt) (fun r w2 => ∃ dt2 : Nat → Nat → Int, w2 = (SH, dt2) ∧ InvC dt2 ∧ Fr [12, 13] dt dt2 ∧ ((r = some (.inl (-1)) ∧ (300 ≤ dt 12 3) ∧ (dt2 12 3 = dt 12 3) ∧ (∀ j : Nat, dt2 13 j = dt 13 j)) ∨ (∃ v : Int, r = some (.inl v) ∧ (0 ≤ v ∧ v ≤ 300) ∧ (v = dt 12 3) ∧ (dt 12 3 < 300) ∧ (dt2 12 3 = dt 12 3 + 1) ∧ (∀ j : Nat, (j : Int) < 6 * dt 12 3 → dt2 13 j = dt 13 j) ∧ (dt2 13 (((dt 12 3) * 6) + 0).toNat = p1) ∧ (dt2 13 (((dt 12 3) * 6) + 1).toNat = p2) ∧ (dt2 13 (((dt 12 3) * 6) + 2).toNat = p3) ∧ (dt2 13 (((dt 12 3) * 6) + 3).toNat = p4) ∧ (dt2 13 (((dt 12 3) * 6) + 4).toNat = p5) ∧ (dt2 13 (((dt 12 3) * 6) + 5).toNat = p6)))) := by
  have hF : Fr [12, 13] dt dt := Fr_refl
  have r1 : 0 ≤ dt 12 3 ∧ dt 12 3 ≤ 300 := InvC_get hI 12 3 rfl rfl
  refine go_toq PM40 (k := 1) (pc' := 1) (L' := [some (.inr (.inr (some 12))), some (.inl p1), some (.inl p2), some (.inl p3), some (.inl p4), some (.inl p5), some (.inl p6)]) (st' := [.inr (.inr (some 12))]) (w' := (SH, dt)) rfl ?_
  refine go_callq PM40 PM38 (Q' := _) rfl rfl rfl rfl (sp_X2_isFull_12 L xs sio (d + 0) dt hI   ) ?_
  rintro _ _ ⟨rfl, h2⟩
  refine ⟨rfl, ?_⟩
  rcases h2 with ⟨rfl, h2⟩ | ⟨rfl, h2⟩
  · skip
    refine go_retq PM40 (k := 2) (r := some (.inl (-1))) (w1 := (SH, dt)) rfl ?_
    first | exact ⟨dt, rfl, hI, hF, (Or.inl ⟨rfl, ⟨by first | exact True.intro | with_reducible assumption | rfl | omega | trivial, by first | exact True.intro | with_reducible assumption | rfl | omega | trivial, by exact fun _ => rfl⟩⟩)⟩ | exact ⟨dt, rfl, hI, hF, (Or.inr ⟨_, rfl, ⟨by decide, by decide⟩, ⟨by first | exact True.intro | with_reducible assumption | rfl | omega | trivial, by first | exact True.intro | with_reducible assumption | rfl | omega | trivial, by first | exact True.intro | with_reducible assumption | rfl | omega | trivial, by assumption, by assumption, by assumption, by assumption, by assumption, by assumption, by assumption⟩⟩)⟩
  · skip
    refine go_toq PM40 (k := 6) (pc' := 16) (L' := [some (.inr (.inr (some 12))), some (.inl p1), some (.inl p2), some (.inl p3), some (.inl p4), some (.inl p5), some (.inl p6)]) (st' := [.inl ((dt 12 3) + 1), .inr (.inr (some 12))]) (w' := (SH, dt)) rfl ?_
    have hI3 : InvC (u2 dt 12 3 ((dt 12 3) + 1)) := InvC_u2 hI (lo := 0) (hi := 300) rfl rfl rfl (by omega) (by omega)
    have hF4 : Fr [12, 13] dt (u2 dt 12 3 ((dt 12 3) + 1)) := Fr_u2 hF (by decide)
    have w5 : (u2 dt 12 3 ((dt 12 3) + 1)) 12 3 = (dt 12 3) + 1 := rfl
    refine go_smpq PM40 (L' := [some (.inr (.inr (some 12))), some (.inl p1), some (.inl p2), some (.inl p3), some (.inl p4), some (.inl p5), some (.inl p6)]) (st' := []) (w' := (SH, (u2 dt 12 3 ((dt 12 3) + 1)))) rfl rfl (s_pf rfl rfl rfl rfl (by first | exact bndp r1 (by decide) (by decide) | exact ⟨by omega, by omega⟩)) ?_
    refine go_toq PM40 (k := 3) (pc' := 22) (L' := [some (.inr (.inr (some 12))), some (.inl p1), some (.inl p2), some (.inl p3), some (.inl p4), some (.inl p5), some (.inl p6)]) (st' := [.inl p1, .inl 0, .inr (.inr (some 12))]) (w' := (SH, (u2 dt 12 3 ((dt 12 3) + 1)))) rfl ?_
    refine go_callq PM40 PM41 (Q' := _) rfl rfl rfl rfl (sp_X2_set_12_0 L xs sio (d + 0) (u2 dt 12 3 ((dt 12 3) + 1)) hI3  p1 (by first | exact h_p1 | exact bnd h_p1 (by decide) (by decide) | exact ⟨by omega, by omega⟩) (by first | exact True.intro | with_reducible assumption | rfl | omega | trivial)) ?_
    rintro _ _ ⟨dt7, rfl, hI8, hF9, h6⟩
    refine ⟨rfl, ?_⟩
    have hF10 : Fr [12, 13] dt dt7 := Fr_tr hF4 hF9 (by decide)
    have w11 : dt7 12 3 = (u2 dt 12 3 ((dt 12 3) + 1)) 12 3 := hF9 12 (by decide) 3
    rcases h6 with ⟨rfl, h6⟩
    obtain ⟨h6_0, h6_1⟩ := h6
    have B12 : ∀ j : Nat, (j : Int) < 6 * dt 12 3 → dt7 13 j = dt 13 j := fun j hj => (h6_0 j (by omega)).trans rfl
    have Y13 : dt7 13 (((dt 12 3) * 6) + 0).toNat = p1 := by rw [show (((dt 12 3) * 6) + 0).toNat = (((((u2 dt 12 3 ((dt 12 3) + 1)) 12 3) - 1) * 6) + 0).toNat by first | with_reducible assumption | omega]; exact h6_1
    refine go_toq PM40 (k := 3) (pc' := 28) (L' := [some (.inr (.inr (some 12))), some (.inl p1), some (.inl p2), some (.inl p3), some (.inl p4), some (.inl p5), some (.inl p6)]) (st' := [.inl p2, .inl 1, .inr (.inr (some 12))]) (w' := (SH, dt7)) rfl ?_
    refine go_callq PM40 PM41 (Q' := _) rfl rfl rfl rfl (sp_X2_set_12_1 L xs sio (d + 0) dt7 hI8  p2 (by first | exact h_p2 | exact bnd h_p2 (by decide) (by decide) | exact ⟨by omega, by omega⟩) (by first | exact True.intro | with_reducible assumption | rfl | omega | trivial)) ?_
    rintro _ _ ⟨dt15, rfl, hI16, hF17, h14⟩
    refine ⟨rfl, ?_⟩
    have hF18 : Fr [12, 13] dt dt15 := Fr_tr hF10 hF17 (by decide)
    have w19 : dt15 12 3 = dt7 12 3 := hF17 12 (by decide) 3
    rcases h14 with ⟨rfl, h14⟩
    obtain ⟨h14_0, h14_1⟩ := h14
    have B20 : ∀ j : Nat, (j : Int) < 6 * dt 12 3 → dt15 13 j = dt 13 j := fun j hj => (h14_0 j (by omega)).trans (B12 j hj)
    have Y21 : dt15 13 (((dt 12 3) * 6) + 0).toNat = p1 := (h14_0 _ (by omega)).trans Y13
    have Y22 : dt15 13 (((dt 12 3) * 6) + 1).toNat = p2 := by rw [show (((dt 12 3) * 6) + 1).toNat = ((((dt7 12 3) - 1) * 6) + 1).toNat by first | with_reducible assumption | omega]; exact h14_1
    refine go_toq PM40 (k := 3) (pc' := 34) (L' := [some (.inr (.inr (some 12))), some (.inl p1), some (.inl p2), some (.inl p3), some (.inl p4), some (.inl p5), some (.inl p6)]) (st' := [.inl p3, .inl 2, .inr (.inr (some 12))]) (w' := (SH, dt15)) rfl ?_
    refine go_callq PM40 PM41 (Q' := _) rfl rfl rfl rfl (sp_X2_set_12_2 L xs sio (d + 0) dt15 hI16  p3 (by first | exact h_p3 | exact bnd h_p3 (by decide) (by decide) | exact ⟨by omega, by omega⟩) (by first | exact True.intro | with_reducible assumption | rfl | omega | trivial)) ?_
    rintro _ _ ⟨dt24, rfl, hI25, hF26, h23⟩
    refine ⟨rfl, ?_⟩
    have hF27 : Fr [12, 13] dt dt24 := Fr_tr hF18 hF26 (by decide)
    have w28 : dt24 12 3 = dt15 12 3 := hF26 12 (by decide) 3
    rcases h23 with ⟨rfl, h23⟩
    obtain ⟨h23_0, h23_1⟩ := h23
    have B29 : ∀ j : Nat, (j : Int) < 6 * dt 12 3 → dt24 13 j = dt 13 j := fun j hj => (h23_0 j (by omega)).trans (B20 j hj)
    have Y30 : dt24 13 (((dt 12 3) * 6) + 0).toNat = p1 := (h23_0 _ (by omega)).trans Y21
    have Y31 : dt24 13 (((dt 12 3) * 6) + 1).toNat = p2 := (h23_0 _ (by omega)).trans Y22
    have Y32 : dt24 13 (((dt 12 3) * 6) + 2).toNat = p3 := by rw [show (((dt 12 3) * 6) + 2).toNat = ((((dt15 12 3) - 1) * 6) + 2).toNat by first | with_reducible assumption | omega]; exact h23_1
    refine go_toq PM40 (k := 3) (pc' := 41) (L' := [some (.inr (.inr (some 12))), some (.inl p1), some (.inl p2), some (.inl p3), some (.inl p4), some (.inl p5), some (.inl p6)]) (st' := [.inl p4, .inl 3, .inr (.inr (some 12))]) (w' := (SH, dt24)) rfl ?_
    refine go_callq PM40 PM41 (Q' := _) rfl rfl rfl rfl (sp_X2_set_12_3 L xs sio (d + 0) dt24 hI25  p4 (by first | exact h_p4 | exact bnd h_p4 (by decide) (by decide) | exact ⟨by omega, by omega⟩) (by first | exact True.intro | with_reducible assumption | rfl | omega | trivial)) ?_
    rintro _ _ ⟨dt34, rfl, hI35, hF36, h33⟩
    refine ⟨rfl, ?_⟩
    have hF37 : Fr [12, 13] dt dt34 := Fr_tr hF27 hF36 (by decide)
    have w38 : dt34 12 3 = dt24 12 3 := hF36 12 (by decide) 3
    rcases h33 with ⟨rfl, h33⟩
    obtain ⟨h33_0, h33_1⟩ := h33
    have B39 : ∀ j : Nat, (j : Int) < 6 * dt 12 3 → dt34 13 j = dt 13 j := fun j hj => (h33_0 j (by omega)).trans (B29 j hj)
    have Y40 : dt34 13 (((dt 12 3) * 6) + 0).toNat = p1 := (h33_0 _ (by omega)).trans Y30
    have Y41 : dt34 13 (((dt 12 3) * 6) + 1).toNat = p2 := (h33_0 _ (by omega)).trans Y31
    have Y42 : dt34 13 (((dt 12 3) * 6) + 2).toNat = p3 := (h33_0 _ (by omega)).trans Y32
    have Y43 : dt34 13 (((dt 12 3) * 6) + 3).toNat = p4 := by rw [show (((dt 12 3) * 6) + 3).toNat = ((((dt24 12 3) - 1) * 6) + 3).toNat by first | with_reducible assumption | omega]; exact h33_1
    refine go_toq PM40 (k := 3) (pc' := 48) (L' := [some (.inr (.inr (some 12))), some (.inl p1), some (.inl p2), some (.inl p3), some (.inl p4), some (.inl p5), some (.inl p6)]) (st' := [.inl p5, .inl 4, .inr (.inr (some 12))]) (w' := (SH, dt34)) rfl ?_
    refine go_callq PM40 PM41 (Q' := _) rfl rfl rfl rfl (sp_X2_set_12_4 L xs sio (d + 0) dt34 hI35  p5 (by first | exact h_p5 | exact bnd h_p5 (by decide) (by decide) | exact ⟨by omega, by omega⟩) (by first | exact True.intro | with_reducible assumption | rfl | omega | trivial)) ?_
    rintro _ _ ⟨dt45, rfl, hI46, hF47, h44⟩
    refine ⟨rfl, ?_⟩
    have hF48 : Fr [12, 13] dt dt45 := Fr_tr hF37 hF47 (by decide)
    have w49 : dt45 12 3 = dt34 12 3 := hF47 12 (by decide) 3
    rcases h44 with ⟨rfl, h44⟩
    obtain ⟨h44_0, h44_1⟩ := h44
    have B50 : ∀ j : Nat, (j : Int) < 6 * dt 12 3 → dt45 13 j = dt 13 j := fun j hj => (h44_0 j (by omega)).trans (B39 j hj)
    have Y51 : dt45 13 (((dt 12 3) * 6) + 0).toNat = p1 := (h44_0 _ (by omega)).trans Y40
    have Y52 : dt45 13 (((dt 12 3) * 6) + 1).toNat = p2 := (h44_0 _ (by omega)).trans Y41
    have Y53 : dt45 13 (((dt 12 3) * 6) + 2).toNat = p3 := (h44_0 _ (by omega)).trans Y42
    have Y54 : dt45 13 (((dt 12 3) * 6) + 3).toNat = p4 := (h44_0 _ (by omega)).trans Y43
    have Y55 : dt45 13 (((dt 12 3) * 6) + 4).toNat = p5 := by rw [show (((dt 12 3) * 6) + 4).toNat = ((((dt34 12 3) - 1) * 6) + 4).toNat by first | with_reducible assumption | omega]; exact h44_1
    refine go_toq PM40 (k := 3) (pc' := 55) (L' := [some (.inr (.inr (some 12))), some (.inl p1), some (.inl p2), some (.inl p3), some (.inl p4), some (.inl p5), some (.inl p6)]) (st' := [.inl p6, .inl 5, .inr (.inr (some 12))]) (w' := (SH, dt45)) rfl ?_
    refine go_callq PM40 PM41 (Q' := _) rfl rfl rfl rfl (sp_X2_set_12_5 L xs sio (d + 0) dt45 hI46  p6 (by first | exact h_p6 | exact bnd h_p6 (by decide) (by decide) | exact ⟨by omega, by omega⟩) (by first | exact True.intro | with_reducible assumption | rfl | omega | trivial)) ?_
    rintro _ _ ⟨dt57, rfl, hI58, hF59, h56⟩
    refine ⟨rfl, ?_⟩
    have hF60 : Fr [12, 13] dt dt57 := Fr_tr hF48 hF59 (by decide)
    have w61 : dt57 12 3 = dt45 12 3 := hF59 12 (by decide) 3
    rcases h56 with ⟨rfl, h56⟩
    obtain ⟨h56_0, h56_1⟩ := h56
    have B62 : ∀ j : Nat, (j : Int) < 6 * dt 12 3 → dt57 13 j = dt 13 j := fun j hj => (h56_0 j (by omega)).trans (B50 j hj)
    have Y63 : dt57 13 (((dt 12 3) * 6) + 0).toNat = p1 := (h56_0 _ (by omega)).trans Y51
    have Y64 : dt57 13 (((dt 12 3) * 6) + 1).toNat = p2 := (h56_0 _ (by omega)).trans Y52
    have Y65 : dt57 13 (((dt 12 3) * 6) + 2).toNat = p3 := (h56_0 _ (by omega)).trans Y53
    have Y66 : dt57 13 (((dt 12 3) * 6) + 3).toNat = p4 := (h56_0 _ (by omega)).trans Y54
    have Y67 : dt57 13 (((dt 12 3) * 6) + 4).toNat = p5 := (h56_0 _ (by omega)).trans Y55
    have Y68 : dt57 13 (((dt 12 3) * 6) + 5).toNat = p6 := by rw [show (((dt 12 3) * 6) + 5).toNat = ((((dt45 12 3) - 1) * 6) + 5).toNat by first | with_reducible assumption | omega]; exact h56_1
    have r69 : 0 ≤ dt57 12 3 ∧ dt57 12 3 ≤ 300 := InvC_get hI58 12 3 rfl rfl
    refine go_retq PM40 (k := 4) (r := some (.inl ((dt57 12 3) - 1))) (w1 := (SH, dt57)) rfl ?_
    exact ⟨dt57, rfl, hI58, hF60, (Or.inr ⟨_, rfl, ⟨by omega, by omega⟩, ⟨by first | exact True.intro | with_reducible assumption | rfl | omega | trivial, by first | exact True.intro | with_reducible assumption | rfl | omega | trivial, by first | exact True.intro | with_reducible assumption | rfl | omega | trivial, by assumption, by assumption, by assumption, by assumption, by assumption, by assumption, by assumption⟩⟩)⟩
theorem sp_X5_told_f (L : Nat) (xs : Nat → Int32) (sio : Option Nat) (d : Nat) (dt : Nat → Nat → Int) (hI : InvC dt)  (p1 : Int) (h_p1 : (-2147483648) ≤ p1 ∧ p1 ≤ 2147483647) (p2 : Int) (h_p2 : (-2147483648) ≤ p2 ∧ p2 ≤ 2147483647) (p3 : Int) (h_p3 : (-2147483648) ≤ p3 ∧ p3 ≤ 2147483647) (p4 : Int) (h_p4 : (-2147483648) ≤ p4 ∧ p4 ≤ 2147483647)  : GO (am_XX L xs sio) (d + 2) 80 0 [some (.inr (.inr (some 0))), some (.inl p1), some (.inl p2), some (.inl p3), some (.inl p4)] [] (SH, dt) (fun r w2 => ∃ dt2 : Nat → Nat → Int, w2 = (SH, dt2) ∧ InvC dt2 ∧ Fr [12, 13] dt dt2 ∧ ((r = some (.inl (-1)) ∧ (¬ ((0 ≤ p1 ∧ p1 < dt 10 3) ∧ (0 ≤ p2 ∧ p2 < dt 7 3) ∧ (0 ≤ p3 ∧ p3 ≤ 3) ∧ dt 12 3 < 300 ∧ ((-1) ≤ p4 ∧ p4 ≤ 3))) ∧ (dt2 12 3 = dt 12 3) ∧ (∀ j : Nat, dt2 13 j = dt 13 j)) ∨ (∃ v : Int, r = some (.inl v) ∧ ((-2147483648) ≤ v ∧ v ≤ 2147483647) ∧ (v = dt 12 3 + 1) ∧ ((0 ≤ p1 ∧ p1 < dt 10 3) ∧ (0 ≤ p2 ∧ p2 < dt 7 3) ∧ (0 ≤ p3 ∧ p3 ≤ 3) ∧ dt 12 3 < 300 ∧ ((-1) ≤ p4 ∧ p4 ≤ 3)) ∧ (dt2 12 3 = dt 12 3 + 1) ∧ (∀ j : Nat, (j : Int) < 6 * dt 12 3 → dt2 13 j = dt 13 j) ∧ (dt2 13 (((dt 12 3) * 6) + 0).toNat = p1) ∧ (dt2 13 (((dt 12 3) * 6) + 1).toNat = p2) ∧ (dt2 13 (((dt 12 3) * 6) + 2).toNat = p3) ∧ (dt2 13 (((dt 12 3) * 6) + 3).toNat = p4) ∧ (dt2 13 (((dt 12 3) * 6) + 4).toNat = -1) ∧ (dt2 13 (((dt 12 3) * 6) + 5).toNat = 0)))) := by
  have hF : Fr [12, 13] dt dt := Fr_refl
  have r1 : 0 ≤ dt 12 3 ∧ dt 12 3 ≤ 300 := InvC_get hI 12 3 rfl rfl
  refine go_toq PM80 (k := 4) (pc' := 4) (L' := [some (.inr (.inr (some 0))), some (.inl p1), some (.inl p2), some (.inl p3), some (.inl p4)]) (st' := [.inl p3, .inl p2, .inl p1, .inr (.inr (some 0))]) (w' := (SH, dt)) rfl ?_
  have r2 : 0 ≤ dt 10 3 ∧ dt 10 3 ≤ 40 := InvC_get hI 10 3 rfl rfl
  have r3 : 0 ≤ dt 7 3 ∧ dt 7 3 ≤ 12 := InvC_get hI 7 3 rfl rfl
  refine go_callq PM80 PM108 (Q' := _) rfl rfl rfl rfl (sp_X5_canAsk L xs sio (d + 0) dt hI  p1 (by first | exact h_p1 | exact bnd h_p1 (by decide) (by decide) | exact ⟨by omega, by omega⟩) p2 (by first | exact h_p2 | exact bnd h_p2 (by decide) (by decide) | exact ⟨by omega, by omega⟩) p3 (by first | exact h_p3 | exact bnd h_p3 (by decide) (by decide) | exact ⟨by omega, by omega⟩) ) ?_
  rintro _ _ ⟨rfl, h4⟩
  refine ⟨rfl, ?_⟩
  rcases h4 with ⟨rfl, h4⟩ | ⟨rfl, h4⟩
  · skip
    obtain ⟨h4_0, h4_1, h4_2⟩ := h4
    refine go_toq PM80 (k := 2) (pc' := 12) (L' := [some (.inr (.inr (some 0))), some (.inl p1), some (.inl p2), some (.inl p3), some (.inl p4)]) (st' := [.inl p4]) (w' := (SH, dt)) rfl ?_
    refine go_callq PM80 PM107 (Q' := _) rfl rfl rfl rfl (sp_X5_isAnswer L xs sio (d + 0) dt hI  p4 (by first | exact h_p4 | exact bnd h_p4 (by decide) (by decide) | exact ⟨by omega, by omega⟩) ) ?_
    rintro _ _ ⟨rfl, h5⟩
    refine ⟨rfl, ?_⟩
    rcases h5 with ⟨rfl, h5⟩ | ⟨rfl, h5⟩
    · skip
      refine go_toq PM80 (k := 10) (pc' := 34) (L' := [some (.inr (.inr (some 0))), some (.inl p1), some (.inl p2), some (.inl p3), some (.inl p4)]) (st' := [.inl 0, .inl (-1), .inl p4, .inl p3, .inl p2, .inl p1, .inr (.inr (some 12))]) (w' := (SH, dt)) rfl ?_
      refine go_callq PM80 PM40 (Q' := _) rfl rfl rfl rfl (sp_X2_add_12f L xs sio (d + 0) dt hI  p1 (by first | exact h_p1 | exact bnd h_p1 (by decide) (by decide) | exact ⟨by omega, by omega⟩) p2 (by first | exact h_p2 | exact bnd h_p2 (by decide) (by decide) | exact ⟨by omega, by omega⟩) p3 (by first | exact h_p3 | exact bnd h_p3 (by decide) (by decide) | exact ⟨by omega, by omega⟩) p4 (by first | exact h_p4 | exact bnd h_p4 (by decide) (by decide) | exact ⟨by omega, by omega⟩) (-1) ⟨by decide, by decide⟩ 0 ⟨by decide, by decide⟩ ) ?_
      rintro _ _ ⟨dt7, rfl, hI8, hF9, h6⟩
      refine ⟨rfl, ?_⟩
      have hF10 : Fr [12, 13] dt dt7 := Fr_tr hF hF9 (by decide)
      rcases h6 with ⟨rfl, h6⟩ | ⟨v_h6, rfl, h6r, h6⟩
      · skip
        obtain ⟨h6_0, h6_1, h6_2⟩ := h6
        refine go_retq PM80 (k := 3) (r := some (.inl (-1))) (w1 := (SH, dt7)) rfl ?_
        first | exact ⟨dt7, rfl, hI8, hF10, (Or.inl ⟨rfl, ⟨by first | exact True.intro | with_reducible assumption | rfl | omega | trivial, by first | exact True.intro | with_reducible assumption | rfl | omega | trivial, by first | exact fun _ => rfl | assumption⟩⟩)⟩ | exact ⟨dt7, rfl, hI8, hF10, (Or.inr ⟨_, rfl, ⟨by decide, by decide⟩, ⟨by first | exact True.intro | with_reducible assumption | rfl | omega | trivial, by first | exact True.intro | with_reducible assumption | rfl | omega | trivial, by first | exact True.intro | with_reducible assumption | rfl | omega | trivial, by assumption, by assumption, by assumption, by assumption, by assumption, by assumption, by assumption⟩⟩)⟩
      · skip
        obtain ⟨h6_0, h6_1, h6_2, h6_3, h6_4, h6_5, h6_6, h6_7, h6_8, h6_9⟩ := h6
        refine go_ifq PM80 (k := 1) (p1 := 43) (p2 := 41) (L' := [some (.inr (.inr (some 0))), some (.inl p1), some (.inl p2), some (.inl p3), some (.inl p4)]) (st' := []) (w' := (SH, dt7)) rfl (c_ne (a := v_h6) (b := (-1)) (by first | exact bnd h6r (by decide) (by decide) | exact ⟨by omega, by omega⟩) ⟨by decide, by decide⟩) (fun c11 => ?_) (fun c11 => ?_)
        · skip
          replace c11 := hid c11
          have r12 : 0 ≤ dt7 12 3 ∧ dt7 12 3 ≤ 300 := InvC_get hI8 12 3 rfl rfl
          refine go_retq PM80 (k := 4) (r := some (.inl (dt7 12 3))) (w1 := (SH, dt7)) rfl ?_
          exact ⟨dt7, rfl, hI8, hF10, (Or.inr ⟨_, rfl, (by first | exact bnd r12 (by decide) (by decide) | exact ⟨by (first | omega | (have z0_ := unhid c11; omega)), by (first | omega | (have z0_ := unhid c11; omega))⟩), ⟨by first | exact True.intro | with_reducible assumption | exact unhid (by with_reducible assumption) | rfl | (first | omega | (have z0_ := unhid c11; omega)) | trivial, by first | exact True.intro | with_reducible assumption | exact unhid (by with_reducible assumption) | rfl | (first | omega | (have z0_ := unhid c11; omega)) | trivial, by first | exact True.intro | with_reducible assumption | exact unhid (by with_reducible assumption) | rfl | (first | omega | (have z0_ := unhid c11; omega)) | trivial, by assumption, by assumption, by assumption, by assumption, by assumption, by assumption, by assumption⟩⟩)⟩
        · exfalso; omega
    · skip
      refine go_retq PM80 (k := 2) (r := some (.inl (-1))) (w1 := (SH, dt)) rfl ?_
      first | exact ⟨dt, rfl, hI, hF, (Or.inl ⟨rfl, ⟨by first | exact True.intro | with_reducible assumption | rfl | omega | trivial, by first | exact True.intro | with_reducible assumption | rfl | omega | trivial, by first | exact fun _ => rfl | assumption⟩⟩)⟩ | exact ⟨dt, rfl, hI, hF, (Or.inr ⟨_, rfl, ⟨by decide, by decide⟩, ⟨by first | exact True.intro | with_reducible assumption | rfl | omega | trivial, by first | exact True.intro | with_reducible assumption | rfl | omega | trivial, by first | exact True.intro | with_reducible assumption | rfl | omega | trivial, by assumption, by assumption, by assumption, by assumption, by assumption, by assumption, by assumption⟩⟩)⟩
  · skip
    refine go_retq PM80 (k := 2) (r := some (.inl (-1))) (w1 := (SH, dt)) rfl ?_
    first | exact ⟨dt, rfl, hI, hF, (Or.inl ⟨rfl, ⟨by first | exact True.intro | with_reducible assumption | rfl | omega | trivial, by first | exact True.intro | with_reducible assumption | rfl | omega | trivial, by first | exact fun _ => rfl | assumption⟩⟩)⟩ | exact ⟨dt, rfl, hI, hF, (Or.inr ⟨_, rfl, ⟨by decide, by decide⟩, ⟨by first | exact True.intro | with_reducible assumption | rfl | omega | trivial, by first | exact True.intro | with_reducible assumption | rfl | omega | trivial, by first | exact True.intro | with_reducible assumption | rfl | omega | trivial, by assumption, by assumption, by assumption, by assumption, by assumption, by assumption, by assumption⟩⟩)⟩
theorem sp_X5_ask_g (L : Nat) (xs : Nat → Int32) (sio : Option Nat) (d : Nat) (dt : Nat → Nat → Int) (hI : InvC dt) (F : Nat → Int) (hMF : MW F) (p1 : Int) (h_p1 : (-2147483648) ≤ p1 ∧ p1 ≤ 2147483647) (p2 : Int) (h_p2 : (-2147483648) ≤ p2 ∧ p2 ≤ 2147483647) (p3 : Int) (h_p3 : (-2147483648) ≤ p3 ∧ p3 ≤ 2147483647) (h_p0 : ALK dt F) : GO (am_XX L xs sio) (d + 5) 79 0 [some (.inr (.inr (some 0))), some (.inl p1), some (.inl p2), some (.inl p3), none, none, none] [] (SH, dt) (fun r w2 => ∃ dt2 : Nat → Nat → Int, w2 = (SH, dt2) ∧ InvC dt2 ∧ Fr [1, 12, 13, 71, 72, 73, 74] dt dt2 ∧ ((r = some (.inl (-2)) ∧ (¬ ((0 ≤ p1 ∧ p1 < dt 10 3) ∧ (0 ≤ p2 ∧ p2 < dt 7 3) ∧ (0 ≤ p3 ∧ p3 ≤ 3) ∧ dt 12 3 < 300)) ∧ (dt2 1 0 = dt 1 0) ∧ (dt2 12 3 = dt 12 3) ∧ (∀ j : Nat, dt2 13 j = dt 13 j)) ∨ (∃ v : Int, r = some (.inl v) ∧ ((-2147483648) ≤ v ∧ v ≤ 2147483647) ∧ ((0 ≤ p1 ∧ p1 < dt 10 3) ∧ (0 ≤ p2 ∧ p2 < dt 7 3) ∧ (0 ≤ p3 ∧ p3 ≤ 3) ∧ dt 12 3 < 300) ∧ (dt2 1 0 = DRW (DRW (dt 1 0))) ∧ (dt2 12 3 = dt 12 3 + 1) ∧ (v = AKB F (FQ F p1 p2 p3) (F (5380 + 4 * p1.toNat)) p2.toNat (dt 1 0)) ∧ (∀ j : Nat, (j : Int) < 6 * dt 12 3 → dt2 13 j = dt 13 j) ∧ (dt2 13 (((dt 12 3) * 6) + 0).toNat = p1) ∧ (dt2 13 (((dt 12 3) * 6) + 1).toNat = p2) ∧ (dt2 13 (((dt 12 3) * 6) + 2).toNat = p3) ∧ (dt2 13 (((dt 12 3) * 6) + 3).toNat = v) ∧ (dt2 13 (((dt 12 3) * 6) + 4).toNat = AKR F (FQ F p1 p2 p3) (F (5380 + 4 * p1.toNat)) (dt 1 0)) ∧ (dt2 13 (((dt 12 3) * 6) + 5).toNat = AKP F (FQ F p1 p2 p3) (F (5380 + 4 * p1.toNat)) (dt 1 0))))) := by
  have hF : Fr [1, 12, 13, 71, 72, 73, 74] dt dt := Fr_refl
  have r1 : 0 ≤ dt 7 3 ∧ dt 7 3 ≤ 12 := InvC_get hI 7 3 rfl rfl
  have r2 : 0 ≤ dt 10 3 ∧ dt 10 3 ≤ 40 := InvC_get hI 10 3 rfl rfl
  have r3 : 0 ≤ dt 12 3 ∧ dt 12 3 ≤ 300 := InvC_get hI 12 3 rfl rfl
  refine go_toq PM79 (k := 4) (pc' := 4) (L' := [some (.inr (.inr (some 0))), some (.inl p1), some (.inl p2), some (.inl p3), none, none, none]) (st' := [.inl p3, .inl p2, .inl p1, .inr (.inr (some 0))]) (w' := (SH, dt)) rfl ?_
  refine go_callq PM79 PM108 (Q' := _) rfl rfl rfl rfl (sp_X5_canAsk L xs sio (d + 3) dt hI  p1 (by first | exact h_p1 | exact bnd h_p1 (by decide) (by decide) | exact ⟨by omega, by omega⟩) p2 (by first | exact h_p2 | exact bnd h_p2 (by decide) (by decide) | exact ⟨by omega, by omega⟩) p3 (by first | exact h_p3 | exact bnd h_p3 (by decide) (by decide) | exact ⟨by omega, by omega⟩) ) ?_
  rintro _ _ ⟨rfl, h4⟩
  refine ⟨rfl, ?_⟩
  rcases h4 with ⟨rfl, h4⟩ | ⟨rfl, h4⟩
  · skip
    obtain ⟨h4_0, h4_1, h4_2⟩ := h4
    have ec_ := ALK_c h_p0 (c := p1) (by omega)
    have el_ := ALK_l h_p0 hMF (c := p1) (by omega)
    refine go_toq PM79 (k := 4) (pc' := 17) (L' := [some (.inr (.inr (some 0))), some (.inl p1), some (.inl p2), some (.inl p3), none, none, none]) (st' := [.inr (.inr (some 12))]) (w' := (SH, dt)) rfl ?_
    refine go_callq PM79 PM38 (Q' := _) rfl rfl rfl rfl (sp_X2_isFull_12 L xs sio (d + 4) dt hI   ) ?_
    rintro _ _ ⟨rfl, h5⟩
    refine ⟨rfl, ?_⟩
    rcases h5 with ⟨rfl, h5⟩ | ⟨rfl, h5⟩
    · skip
      refine go_retq PM79 (k := 2) (r := some (.inl (-2))) (w1 := (SH, dt)) rfl ?_
      first | exact ⟨dt, rfl, hI, hF, (Or.inl ⟨rfl, ⟨by first | exact True.intro | with_reducible assumption | rfl | omega | trivial, by first | exact True.intro | with_reducible assumption | rfl | omega | trivial, by first | exact True.intro | with_reducible assumption | rfl | omega | trivial, by first | exact fun _ => rfl | assumption⟩⟩)⟩ | exact ⟨dt, rfl, hI, hF, (Or.inr ⟨_, rfl, ⟨by decide, by decide⟩, ⟨by first | exact True.intro | with_reducible assumption | rfl | omega | trivial, by exact hI, by first | exact True.intro | with_reducible assumption | rfl | omega | trivial, by unfold AKB; rw [← ec_.1]; first | (rw [if_pos (by omega)]; exact hI) | (rw [if_neg (by omega), if_pos (by omega)]; exact hI) | (rw [if_neg (by omega), if_neg (by omega), ← hA_, ← hI, ← hI]; exact hI), by exact hI, by exact hI, by exact hI, by exact hI, by exact hI, by rw [hI]; unfold AKR; rw [← ec_.1]; first | (rw [if_pos (by omega)]; done) | (rw [if_neg (by omega), ← hA_, ← hI]; exact hI), by rw [hI]; unfold AKP; rw [← ec_.1]; first | (rw [if_pos (by omega)]; done) | (rw [if_neg (by omega)]; done)⟩⟩)⟩
    · skip
      refine go_toq PM79 (k := 4) (pc' := 29) (L' := [some (.inr (.inr (some 0))), some (.inl p1), some (.inl p2), some (.inl p3), none, none, none]) (st' := [.inl p1, .inr (.inr (some 0)), .inr (.inr (some 0))]) (w' := (SH, dt)) rfl ?_
      refine go_callq PM79 PM109 (Q' := _) rfl rfl rfl rfl (sp_X5_lawOf_f L xs sio (d + 2) dt hI  p1 (by first | exact h_p1 | exact bnd h_p1 (by decide) (by decide) | exact ⟨by omega, by omega⟩) (by first | exact True.intro | with_reducible assumption | rfl | omega | trivial | exact hI | exact ALK_fr h_p0 hF (fun k a b z_ => by simp at z_; omega) | (rw [show dt 9 = dt 9 from funext (hF 9 (by decide))]; exact h_p0.2.2.1) | (rw [show dt 7 3 = dt 7 3 from hF 7 (by decide) 3]; first | omega | exact h_p0.2.2.2.2.1) | (rw [show dt 10 3 = dt 10 3 from hF 10 (by decide) 3]; omega)) (by first | exact True.intro | with_reducible assumption | rfl | omega | trivial | exact hI | exact ALK_fr h_p0 hF (fun k a b z_ => by simp at z_; omega) | (rw [show dt 9 = dt 9 from funext (hF 9 (by decide))]; exact h_p0.2.2.1) | (rw [show dt 7 3 = dt 7 3 from hF 7 (by decide) 3]; first | omega | exact h_p0.2.2.2.2.1) | (rw [show dt 10 3 = dt 10 3 from hF 10 (by decide) 3]; omega))) ?_
      rintro _ _ ⟨rfl, h6⟩
      refine ⟨rfl, ?_⟩
      rcases h6 with ⟨rfl, h6⟩
      refine go_toq PM79 (k := 3) (pc' := 35) (L' := [some (.inr (.inr (some 0))), some (.inl p1), some (.inl p2), some (.inl p3), none, none, none]) (st' := [.inl p3, .inl p2, .inl p1, .inl (dt 11 (((p1 * 4) + 0)).toNat), .inr (.inr (some 0))]) (w' := (SH, dt)) rfl ?_
      refine go_callq PM79 PM118 (Q' := _) rfl rfl rfl rfl (sp_X5_weigh_f L xs sio (d + 0) dt hI F hMF (dt 11 (((p1 * 4) + 0)).toNat) ⟨by omega, by omega⟩ p1 (by first | exact h_p1 | exact bnd h_p1 (by decide) (by decide) | exact ⟨by omega, by omega⟩) p2 (by first | exact h_p2 | exact bnd h_p2 (by decide) (by decide) | exact ⟨by omega, by omega⟩) p3 (by first | exact h_p3 | exact bnd h_p3 (by decide) (by decide) | exact ⟨by omega, by omega⟩) (by first | exact True.intro | with_reducible assumption | rfl | omega | trivial | exact hI | exact ALK_fr h_p0 hF (fun k a b z_ => by simp at z_; omega) | (rw [show dt 9 = dt 9 from funext (hF 9 (by decide))]; exact h_p0.2.2.1) | (rw [show dt 7 3 = dt 7 3 from hF 7 (by decide) 3]; first | omega | exact h_p0.2.2.2.2.1) | (rw [show dt 10 3 = dt 10 3 from hF 10 (by decide) 3]; omega)) (by first | exact True.intro | with_reducible assumption | rfl | omega | trivial | exact hI | exact ALK_fr h_p0 hF (fun k a b z_ => by simp at z_; omega) | (rw [show dt 9 = dt 9 from funext (hF 9 (by decide))]; exact h_p0.2.2.1) | (rw [show dt 7 3 = dt 7 3 from hF 7 (by decide) 3]; first | omega | exact h_p0.2.2.2.2.1) | (rw [show dt 10 3 = dt 10 3 from hF 10 (by decide) 3]; omega)) (by first | exact True.intro | with_reducible assumption | rfl | omega | trivial | exact hI | exact ALK_fr h_p0 hF (fun k a b z_ => by simp at z_; omega) | (rw [show dt 9 = dt 9 from funext (hF 9 (by decide))]; exact h_p0.2.2.1) | (rw [show dt 7 3 = dt 7 3 from hF 7 (by decide) 3]; first | omega | exact h_p0.2.2.2.2.1) | (rw [show dt 10 3 = dt 10 3 from hF 10 (by decide) 3]; omega))) ?_
      rintro _ _ ⟨dt8, rfl, hI9, hF10, h7⟩
      refine ⟨rfl, ?_⟩
      have hF11 : Fr [1, 12, 13, 71, 72, 73, 74] dt dt8 := Fr_tr hF hF10 (by decide)
      have w12 : dt8 1 0 = dt 1 0 := hF10 1 (by decide) 0
      have w13 : dt8 12 3 = dt 12 3 := hF10 12 (by decide) 3
      rcases h7 with ⟨rfl, h7⟩
      have k14 : ∀ j : Nat, dt8 13 j = dt 13 j := fun j => (hF10 13 (by decide) j).trans ((fun _ => rfl) j)
      have wg15 : WGT (dt8 72) (dt8 71 1) F (FQ F p1 p2 p3) (dt 11 (((p1 * 4) + 0)).toNat) := h7
      have hA_ := wg15.2.2
      have hP_ := wg15.2.1
      have bW_ := WS_R8 (f := F) (fa := (FQ F p1 p2 p3)) (l := (dt 11 (((p1 * 4) + 0)).toNat)) 8 (by decide)
      have st16 : dt8 1 0 = dt 1 0 := hF10 1 (by decide) 0
      have r17 : 0 ≤ dt8 71 1 ∧ dt8 71 1 ≤ 792 := InvC_get hI9 71 1 rfl rfl
      refine go_ifq PM79 (k := 5) (p1 := 61) (p2 := 51) (L' := [some (.inr (.inr (some 0))), some (.inl p1), some (.inl p2), some (.inl p3), some (.inl (-1)), none, none]) (st' := []) (w' := (SH, dt8)) rfl (z_ne (a := dt8 71 1) (by first | exact bnd r17 (by decide) (by decide) | exact ⟨by omega, by omega⟩)) (fun c18 => ?_) (fun c18 => ?_)
      · skip
        have qc18 : 1 ≤ dt8 71 1 := by omega
        replace c18 := hid c18
        refine go_toq PM79 (k := 6) (pc' := 73) (L' := [some (.inr (.inr (some 0))), some (.inl p1), some (.inl p2), some (.inl p3), some (.inl (-1)), none, none]) (st' := [.inl (dt8 71 1), .inr (.inr (some 0)), .inr (.inr (some 71))]) (w' := (SH, dt8)) rfl ?_
        refine go_callq PM79 PM110 (Q' := _) rfl rfl rfl rfl (sp_X5_draw_f L xs sio (d + 4) dt8 hI9  (dt8 71 1) (by first | exact bnd r17 (by decide) (by decide) | exact ⟨by (first | omega | (have z0_ := unhid c18; omega)), by (first | omega | (have z0_ := unhid c18; omega))⟩) ) ?_
        rintro _ _ ⟨dt20, rfl, hI21, hF22, h19⟩
        refine ⟨rfl, ?_⟩
        have hF23 : Fr [1, 12, 13, 71, 72, 73, 74] dt dt20 := Fr_tr hF11 hF22 (by decide)
        have w24 : dt20 12 3 = dt8 12 3 := hF22 12 (by decide) 3
        rcases h19 with ⟨v_h19, rfl, h19r, h19⟩
        obtain ⟨h19_0, h19_1, h19_2⟩ := h19
        have k25 : ∀ j : Nat, dt20 13 j = dt 13 j := fun j => (hF22 13 (by decide) j).trans (k14 j)
        have dv26 : v_h19 = DVW (DRW (dt 1 0)) (dt8 71 1) := by have z_ := h19_2; rw [st16] at z_; exact z_
        have st27 : dt20 1 0 = DRW (dt 1 0) := by rw [h19_1, st16]
        have wg28 : WGT (dt20 72) (dt20 71 1) F (FQ F p1 p2 p3) (dt 11 (((p1 * 4) + 0)).toNat) := by rw [show dt20 72 = dt8 72 from funext (hF22 72 (by decide)), hF22 71 (by decide) 1]; exact wg15
        have hA29 := wg28.2.2
        have hP30 := wg28.2.1
        refine go_callq PM79 PM46 (Q' := _) rfl rfl rfl rfl (sp_X3_ruleOf_f L xs sio (d + 4) dt20 hI21 F (FQ F p1 p2 p3) (dt 11 (((p1 * 4) + 0)).toNat) v_h19 (by first | exact bnd h19r (by decide) (by decide) | exact ⟨by (first | omega | (have z0_ := unhid c18; omega)), by (first | omega | (have z0_ := unhid c18; omega))⟩) (by first | exact True.intro | with_reducible assumption | exact unhid (by with_reducible assumption) | rfl | (first | omega | (have z0_ := unhid c18; omega)) | trivial | exact wg28 | exact ALK_fr h_p0 hF23 (fun k a b z_ => by simp at z_; (first | omega | (have z0_ := unhid c18; omega))) | (rw [show dt20 9 = dt 9 from funext (hF23 9 (by decide))]; exact h_p0.2.2.1) | (rw [show dt20 7 3 = dt 7 3 from hF23 7 (by decide) 3]; first | (first | omega | (have z0_ := unhid c18; omega)) | exact h_p0.2.2.2.2.1) | (rw [show dt20 10 3 = dt 10 3 from hF23 10 (by decide) 3]; (first | omega | (have z0_ := unhid c18; omega)))) (by first | exact True.intro | with_reducible assumption | exact unhid (by with_reducible assumption) | rfl | (first | omega | (have z0_ := unhid c18; omega)) | trivial | exact wg28 | exact ALK_fr h_p0 hF23 (fun k a b z_ => by simp at z_; (first | omega | (have z0_ := unhid c18; omega))) | (rw [show dt20 9 = dt 9 from funext (hF23 9 (by decide))]; exact h_p0.2.2.1) | (rw [show dt20 7 3 = dt 7 3 from hF23 7 (by decide) 3]; first | (first | omega | (have z0_ := unhid c18; omega)) | exact h_p0.2.2.2.2.1) | (rw [show dt20 10 3 = dt 10 3 from hF23 10 (by decide) 3]; (first | omega | (have z0_ := unhid c18; omega))))) ?_
        rintro _ _ ⟨rfl, h31⟩
        refine ⟨rfl, ?_⟩
        rcases h31 with ⟨v_h31, rfl, h31r, h31⟩
        refine go_toq PM79 (k := 5) (pc' := 88) (L' := [some (.inr (.inr (some 0))), some (.inl p1), some (.inl p2), some (.inl p3), some (.inl v_h31), none, none]) (st' := [.inl v_h31, .inl p2, .inr (.inr (some 1))]) (w' := (SH, dt20)) rfl ?_
        refine go_callq PM79 PM1 (Q' := _) rfl rfl rfl rfl (sp_X0_saidOf_f L xs sio (d + 3) dt20 hI21  p2 (by first | exact h_p2 | exact bnd h_p2 (by decide) (by decide) | exact ⟨by (first | omega | (have z0_ := unhid c18; omega)), by (first | omega | (have z0_ := unhid c18; omega))⟩) v_h31 (by first | exact bnd h31r (by decide) (by decide) | exact ⟨by (first | omega | (have z0_ := unhid c18; omega)), by (first | omega | (have z0_ := unhid c18; omega))⟩) (by first | exact True.intro | with_reducible assumption | exact unhid (by with_reducible assumption) | rfl | (first | omega | (have z0_ := unhid c18; omega)) | trivial | exact wg28 | exact ALK_fr h_p0 hF23 (fun k a b z_ => by simp at z_; (first | omega | (have z0_ := unhid c18; omega))) | (rw [show dt20 9 = dt 9 from funext (hF23 9 (by decide))]; exact h_p0.2.2.1) | (rw [show dt20 7 3 = dt 7 3 from hF23 7 (by decide) 3]; first | (first | omega | (have z0_ := unhid c18; omega)) | exact h_p0.2.2.2.2.1) | (rw [show dt20 10 3 = dt 10 3 from hF23 10 (by decide) 3]; (first | omega | (have z0_ := unhid c18; omega))))) ?_
        rintro _ _ ⟨rfl, h32⟩
        refine ⟨rfl, ?_⟩
        rcases h32 with ⟨rfl, h32⟩
        have sd33 : dt20 9 (((p2 * 11) + v_h31)).toNat = SAID F p2.toNat v_h31 := by rw [hF23 9 (by decide)]; have z_ := h_p0.2.2.1 p2.toNat (by have w_ := h_p0.2.2.2.2.1; (first | omega | (have z0_ := unhid c18; omega))) (v_h31).toNat (by (first | omega | (have z0_ := unhid c18; omega))); rw [show 11 * p2.toNat + (v_h31).toNat = (((p2 * 11) + v_h31)).toNat by first | with_reducible assumption | exact unhid (by with_reducible assumption) | (first | omega | (have z0_ := unhid c18; omega)), show (((v_h31).toNat : Nat) : Int) = v_h31 by first | with_reducible assumption | exact unhid (by with_reducible assumption) | (first | omega | (have z0_ := unhid c18; omega))] at z_; exact z_
        refine go_toq PM79 (k := 3) (pc' := 96) (L' := [some (.inr (.inr (some 0))), some (.inl p1), some (.inl p2), some (.inl p3), some (.inl v_h31), some (.inl (dt20 9 (((p2 * 11) + v_h31)).toNat)), none]) (st' := [.inl 100, .inr (.inr (some 0))]) (w' := (SH, dt20)) rfl ?_
        refine go_callq PM79 PM110 (Q' := _) rfl rfl rfl rfl (sp_X5_draw_f L xs sio (d + 4) dt20 hI21  100 ⟨by decide, by decide⟩ ) ?_
        rintro _ _ ⟨dt35, rfl, hI36, hF37, h34⟩
        refine ⟨rfl, ?_⟩
        have hF38 : Fr [1, 12, 13, 71, 72, 73, 74] dt dt35 := Fr_tr hF23 hF37 (by decide)
        have w39 : dt35 12 3 = dt20 12 3 := hF37 12 (by decide) 3
        rcases h34 with ⟨v_h34, rfl, h34r, h34⟩
        obtain ⟨h34_0, h34_1, h34_2⟩ := h34
        have k40 : ∀ j : Nat, dt35 13 j = dt 13 j := fun j => (hF37 13 (by decide) j).trans (k25 j)
        have dv41 : v_h34 = DVW (DRW (DRW (dt 1 0))) 100 := by have z_ := h34_2; rw [st27] at z_; exact z_
        have st42 : dt35 1 0 = DRW (DRW (dt 1 0)) := by rw [h34_1, st27]
        have wg43 : WGT (dt35 72) (dt35 71 1) F (FQ F p1 p2 p3) (dt 11 (((p1 * 4) + 0)).toNat) := by rw [show dt35 72 = dt20 72 from funext (hF37 72 (by decide)), hF37 71 (by decide) 1]; exact wg28
        have hA44 := wg43.2.2
        have hP45 := wg43.2.1
        refine go_toq PM79 (k := 4) (pc' := 108) (L' := [some (.inr (.inr (some 0))), some (.inl p1), some (.inl p2), some (.inl p3), some (.inl v_h31), some (.inl (dt20 9 (((p2 * 11) + v_h31)).toNat)), none]) (st' := [.inl 8, .inr (.inr (some 72)), .inl v_h34]) (w' := (SH, dt35)) rfl ?_
        have r46 : 0 ≤ dt35 72 8 ∧ dt35 72 8 ≤ 100 := InvC_get hI36 72 8 rfl rfl
        refine go_smpq PM79 (L' := [some (.inr (.inr (some 0))), some (.inl p1), some (.inl p2), some (.inl p3), some (.inl v_h31), some (.inl (dt20 9 (((p2 * 11) + v_h31)).toNat)), none]) (st' := [.inl (dt35 72 8), .inl v_h34]) (w' := (SH, dt35)) rfl rfl (s_iald (n := 9) (f := dt35 72) rfl ⟨by decide, by decide⟩) ?_
        refine go_ifq PM79 (k := 0) (p1 := 116) (p2 := 112) (L' := [some (.inr (.inr (some 0))), some (.inl p1), some (.inl p2), some (.inl p3), some (.inl v_h31), some (.inl (dt20 9 (((p2 * 11) + v_h31)).toNat)), none]) (st' := []) (w' := (SH, dt35)) rfl (c_ge (a := v_h34) (b := dt35 72 8) (by first | exact bnd h34r (by decide) (by decide) | exact ⟨by (first | omega | (have z0_ := unhid c18; omega)), by (first | omega | (have z0_ := unhid c18; omega))⟩) (by first | exact bnd r46 (by decide) (by decide) | exact ⟨by (first | omega | (have z0_ := unhid c18; omega)), by (first | omega | (have z0_ := unhid c18; omega))⟩)) (fun c47 => ?_) (fun c47 => ?_)
        · skip
          refine go_toq PM79 (k := 15) (pc' := 159) (L' := [some (.inr (.inr (some 0))), some (.inl p1), some (.inl p2), some (.inl p3), some (.inl v_h31), some (.inl (dt20 9 (((p2 * 11) + v_h31)).toNat)), some (.inl 0)]) (st' := [.inl 0, .inl v_h31, .inl (dt20 9 (((p2 * 11) + v_h31)).toNat), .inl p3, .inl p2, .inl p1, .inr (.inr (some 12))]) (w' := (SH, dt35)) rfl ?_
          have r48 : 0 ≤ dt35 12 3 ∧ dt35 12 3 ≤ 300 := InvC_get hI36 12 3 rfl rfl
          refine go_callq PM79 PM40 (Q' := _) rfl rfl rfl rfl (sp_X2_add_12f L xs sio (d + 3) dt35 hI36  p1 (by first | exact h_p1 | exact bnd h_p1 (by decide) (by decide) | exact ⟨by (first | omega | (have z0_ := unhid c18; omega)), by (first | omega | (have z0_ := unhid c18; omega))⟩) p2 (by first | exact h_p2 | exact bnd h_p2 (by decide) (by decide) | exact ⟨by (first | omega | (have z0_ := unhid c18; omega)), by (first | omega | (have z0_ := unhid c18; omega))⟩) p3 (by first | exact h_p3 | exact bnd h_p3 (by decide) (by decide) | exact ⟨by (first | omega | (have z0_ := unhid c18; omega)), by (first | omega | (have z0_ := unhid c18; omega))⟩) (dt20 9 (((p2 * 11) + v_h31)).toNat) ⟨by (first | omega | (have z0_ := unhid c18; omega)), by (first | omega | (have z0_ := unhid c18; omega))⟩ v_h31 (by first | exact bnd h31r (by decide) (by decide) | exact ⟨by (first | omega | (have z0_ := unhid c18; omega)), by (first | omega | (have z0_ := unhid c18; omega))⟩) 0 ⟨by decide, by decide⟩ ) ?_
          rintro _ _ ⟨dt50, rfl, hI51, hF52, h49⟩
          refine ⟨rfl, ?_⟩
          have hF53 : Fr [1, 12, 13, 71, 72, 73, 74] dt dt50 := Fr_tr hF38 hF52 (by decide)
          have w54 : dt50 1 0 = dt35 1 0 := hF52 1 (by decide) 0
          rcases h49 with ⟨rfl, h49⟩ | ⟨v_h49, rfl, h49r, h49⟩
          · skip
            obtain ⟨h49_0, h49_1, h49_2⟩ := h49
            exfalso; (first | omega | (have z0_ := unhid c18; omega))
          · skip
            obtain ⟨h49_0, h49_1, h49_2, h49_3, h49_4, h49_5, h49_6, h49_7, h49_8, h49_9⟩ := h49
            have R55 : dt50 13 (((dt 12 3) * 6) + 0).toNat = p1 := by rw [show (((dt 12 3) * 6) + 0).toNat = (((dt35 12 3) * 6) + 0).toNat by first | with_reducible assumption | exact unhid (by with_reducible assumption) | (first | omega | (have z0_ := unhid c18; omega))]; exact h49_4
            have R56 : dt50 13 (((dt 12 3) * 6) + 1).toNat = p2 := by rw [show (((dt 12 3) * 6) + 1).toNat = (((dt35 12 3) * 6) + 1).toNat by first | with_reducible assumption | exact unhid (by with_reducible assumption) | (first | omega | (have z0_ := unhid c18; omega))]; exact h49_5
            have R57 : dt50 13 (((dt 12 3) * 6) + 2).toNat = p3 := by rw [show (((dt 12 3) * 6) + 2).toNat = (((dt35 12 3) * 6) + 2).toNat by first | with_reducible assumption | exact unhid (by with_reducible assumption) | (first | omega | (have z0_ := unhid c18; omega))]; exact h49_6
            have R58 : dt50 13 (((dt 12 3) * 6) + 3).toNat = dt20 9 (((p2 * 11) + v_h31)).toNat := by rw [show (((dt 12 3) * 6) + 3).toNat = (((dt35 12 3) * 6) + 3).toNat by first | with_reducible assumption | exact unhid (by with_reducible assumption) | (first | omega | (have z0_ := unhid c18; omega))]; exact h49_7
            have R59 : dt50 13 (((dt 12 3) * 6) + 4).toNat = v_h31 := by rw [show (((dt 12 3) * 6) + 4).toNat = (((dt35 12 3) * 6) + 4).toNat by first | with_reducible assumption | exact unhid (by with_reducible assumption) | (first | omega | (have z0_ := unhid c18; omega))]; exact h49_8
            have R60 : dt50 13 (((dt 12 3) * 6) + 5).toNat = 0 := by rw [show (((dt 12 3) * 6) + 5).toNat = (((dt35 12 3) * 6) + 5).toNat by first | with_reducible assumption | exact unhid (by with_reducible assumption) | (first | omega | (have z0_ := unhid c18; omega))]; exact h49_9
            have K61 : ∀ j : Nat, (j : Int) < 6 * dt 12 3 → dt50 13 j = dt 13 j := fun j hj => (h49_3 j (by (first | omega | (have z0_ := unhid c18; omega)))).trans (k40 j)
            have st62 : dt50 1 0 = (DRW (DRW (dt 1 0))) := (hF52 1 (by decide) 0).trans st42
            have wg63 : WGT (dt50 72) (dt50 71 1) F (FQ F p1 p2 p3) (dt 11 (((p1 * 4) + 0)).toNat) := by rw [show dt50 72 = dt35 72 from funext (hF52 72 (by decide)), hF52 71 (by decide) 1]; exact wg43
            have hA64 := wg63.2.2
            have hP65 := wg63.2.1
            refine go_retq PM79 (k := 2) (r := some (.inl (dt20 9 (((p2 * 11) + v_h31)).toNat))) (w1 := (SH, dt50)) rfl ?_
            exact ⟨dt50, rfl, hI51, hF53, (Or.inr ⟨_, rfl, ⟨by (first | omega | (have z0_ := unhid c18; omega)), by (first | omega | (have z0_ := unhid c18; omega))⟩, ⟨by first | exact True.intro | with_reducible assumption | exact unhid (by with_reducible assumption) | rfl | (first | omega | (have z0_ := unhid c18; omega)) | trivial, by exact st62, by first | exact True.intro | with_reducible assumption | exact unhid (by with_reducible assumption) | rfl | (first | omega | (have z0_ := unhid c18; omega)) | trivial, by unfold AKB; rw [← ec_.1]; first | (rw [if_pos (by (first | omega | (have z0_ := unhid c18; omega)))]; exact hI) | (rw [if_neg (by (first | omega | (have z0_ := unhid c18; omega))), if_pos (by (first | omega | (have z0_ := unhid c18; omega)))]; exact dv26) | (rw [if_neg (by (first | omega | (have z0_ := unhid c18; omega))), if_neg (by (first | omega | (have z0_ := unhid c18; omega))), ← hA_, ← dv26, ← h31]; exact sd33), by exact K61, by exact R55, by exact R56, by exact R57, by exact R58, by rw [R59]; unfold AKR; rw [← ec_.1]; first | (rw [if_pos (by (first | omega | (have z0_ := unhid c18; omega)))]; done) | (rw [if_neg (by (first | omega | (have z0_ := unhid c18; omega))), ← hA_, ← dv26]; exact h31), by rw [R60]; unfold AKP; rw [← ec_.1]; first | (rw [if_pos (by (first | omega | (have z0_ := unhid c18; omega)))]; done) | (rw [if_neg (by (first | omega | (have z0_ := unhid c18; omega)))]; done)⟩⟩)⟩
        · skip
          refine go_toq PM79 (k := 9) (pc' := 130) (L' := [some (.inr (.inr (some 0))), some (.inl p1), some (.inl p2), some (.inl p3), some (.inl v_h31), some (.inl (dt20 9 (((p2 * 11) + v_h31)).toNat)), some (.inl 1)]) (st' := [.inl 0, .inl p2, .inr (.inr (some 1))]) (w' := (SH, dt35)) rfl ?_
          refine go_callq PM79 PM1 (Q' := _) rfl rfl rfl rfl (sp_X0_saidOf_f L xs sio (d + 3) dt35 hI36  p2 (by first | exact h_p2 | exact bnd h_p2 (by decide) (by decide) | exact ⟨by (first | omega | (have z0_ := unhid c18; omega)), by (first | omega | (have z0_ := unhid c18; omega))⟩) 0 ⟨by decide, by decide⟩ (by first | exact True.intro | with_reducible assumption | exact unhid (by with_reducible assumption) | rfl | (first | omega | (have z0_ := unhid c18; omega)) | trivial | exact wg43 | exact ALK_fr h_p0 hF38 (fun k a b z_ => by simp at z_; (first | omega | (have z0_ := unhid c18; omega))) | (rw [show dt35 9 = dt 9 from funext (hF38 9 (by decide))]; exact h_p0.2.2.1) | (rw [show dt35 7 3 = dt 7 3 from hF38 7 (by decide) 3]; first | (first | omega | (have z0_ := unhid c18; omega)) | exact h_p0.2.2.2.2.1) | (rw [show dt35 10 3 = dt 10 3 from hF38 10 (by decide) 3]; (first | omega | (have z0_ := unhid c18; omega))))) ?_
          rintro _ _ ⟨rfl, h66⟩
          refine ⟨rfl, ?_⟩
          rcases h66 with ⟨rfl, h66⟩
          have sd67 : dt35 9 (((p2 * 11) + (0 : Int))).toNat = SAID F p2.toNat (0 : Int) := by rw [hF38 9 (by decide)]; have z_ := h_p0.2.2.1 p2.toNat (by have w_ := h_p0.2.2.2.2.1; (first | omega | (have z0_ := unhid c18; omega))) ((0 : Int)).toNat (by (first | omega | (have z0_ := unhid c18; omega))); rw [show 11 * p2.toNat + ((0 : Int)).toNat = (((p2 * 11) + (0 : Int))).toNat by first | with_reducible assumption | exact unhid (by with_reducible assumption) | (first | omega | (have z0_ := unhid c18; omega)), show ((((0 : Int)).toNat : Nat) : Int) = (0 : Int) by first | with_reducible assumption | exact unhid (by with_reducible assumption) | (first | omega | (have z0_ := unhid c18; omega))] at z_; exact z_
          refine go_toq PM79 (k := 13) (pc' := 159) (L' := [some (.inr (.inr (some 0))), some (.inl p1), some (.inl p2), some (.inl p3), some (.inl v_h31), some (.inl (dt35 9 (((p2 * 11) + 0)).toNat)), some (.inl 1)]) (st' := [.inl 1, .inl v_h31, .inl (dt35 9 (((p2 * 11) + 0)).toNat), .inl p3, .inl p2, .inl p1, .inr (.inr (some 12))]) (w' := (SH, dt35)) rfl ?_
          have r68 : 0 ≤ dt35 12 3 ∧ dt35 12 3 ≤ 300 := InvC_get hI36 12 3 rfl rfl
          refine go_callq PM79 PM40 (Q' := _) rfl rfl rfl rfl (sp_X2_add_12f L xs sio (d + 3) dt35 hI36  p1 (by first | exact h_p1 | exact bnd h_p1 (by decide) (by decide) | exact ⟨by (first | omega | (have z0_ := unhid c18; omega)), by (first | omega | (have z0_ := unhid c18; omega))⟩) p2 (by first | exact h_p2 | exact bnd h_p2 (by decide) (by decide) | exact ⟨by (first | omega | (have z0_ := unhid c18; omega)), by (first | omega | (have z0_ := unhid c18; omega))⟩) p3 (by first | exact h_p3 | exact bnd h_p3 (by decide) (by decide) | exact ⟨by (first | omega | (have z0_ := unhid c18; omega)), by (first | omega | (have z0_ := unhid c18; omega))⟩) (dt35 9 (((p2 * 11) + 0)).toNat) ⟨by (first | omega | (have z0_ := unhid c18; omega)), by (first | omega | (have z0_ := unhid c18; omega))⟩ v_h31 (by first | exact bnd h31r (by decide) (by decide) | exact ⟨by (first | omega | (have z0_ := unhid c18; omega)), by (first | omega | (have z0_ := unhid c18; omega))⟩) 1 ⟨by decide, by decide⟩ ) ?_
          rintro _ _ ⟨dt70, rfl, hI71, hF72, h69⟩
          refine ⟨rfl, ?_⟩
          have hF73 : Fr [1, 12, 13, 71, 72, 73, 74] dt dt70 := Fr_tr hF38 hF72 (by decide)
          have w74 : dt70 1 0 = dt35 1 0 := hF72 1 (by decide) 0
          rcases h69 with ⟨rfl, h69⟩ | ⟨v_h69, rfl, h69r, h69⟩
          · skip
            obtain ⟨h69_0, h69_1, h69_2⟩ := h69
            exfalso; (first | omega | (have z0_ := unhid c18; omega))
          · skip
            obtain ⟨h69_0, h69_1, h69_2, h69_3, h69_4, h69_5, h69_6, h69_7, h69_8, h69_9⟩ := h69
            have R75 : dt70 13 (((dt 12 3) * 6) + 0).toNat = p1 := by rw [show (((dt 12 3) * 6) + 0).toNat = (((dt35 12 3) * 6) + 0).toNat by first | with_reducible assumption | exact unhid (by with_reducible assumption) | (first | omega | (have z0_ := unhid c18; omega))]; exact h69_4
            have R76 : dt70 13 (((dt 12 3) * 6) + 1).toNat = p2 := by rw [show (((dt 12 3) * 6) + 1).toNat = (((dt35 12 3) * 6) + 1).toNat by first | with_reducible assumption | exact unhid (by with_reducible assumption) | (first | omega | (have z0_ := unhid c18; omega))]; exact h69_5
            have R77 : dt70 13 (((dt 12 3) * 6) + 2).toNat = p3 := by rw [show (((dt 12 3) * 6) + 2).toNat = (((dt35 12 3) * 6) + 2).toNat by first | with_reducible assumption | exact unhid (by with_reducible assumption) | (first | omega | (have z0_ := unhid c18; omega))]; exact h69_6
            have R78 : dt70 13 (((dt 12 3) * 6) + 3).toNat = dt35 9 (((p2 * 11) + 0)).toNat := by rw [show (((dt 12 3) * 6) + 3).toNat = (((dt35 12 3) * 6) + 3).toNat by first | with_reducible assumption | exact unhid (by with_reducible assumption) | (first | omega | (have z0_ := unhid c18; omega))]; exact h69_7
            have R79 : dt70 13 (((dt 12 3) * 6) + 4).toNat = v_h31 := by rw [show (((dt 12 3) * 6) + 4).toNat = (((dt35 12 3) * 6) + 4).toNat by first | with_reducible assumption | exact unhid (by with_reducible assumption) | (first | omega | (have z0_ := unhid c18; omega))]; exact h69_8
            have R80 : dt70 13 (((dt 12 3) * 6) + 5).toNat = 1 := by rw [show (((dt 12 3) * 6) + 5).toNat = (((dt35 12 3) * 6) + 5).toNat by first | with_reducible assumption | exact unhid (by with_reducible assumption) | (first | omega | (have z0_ := unhid c18; omega))]; exact h69_9
            have K81 : ∀ j : Nat, (j : Int) < 6 * dt 12 3 → dt70 13 j = dt 13 j := fun j hj => (h69_3 j (by (first | omega | (have z0_ := unhid c18; omega)))).trans (k40 j)
            have st82 : dt70 1 0 = (DRW (DRW (dt 1 0))) := (hF72 1 (by decide) 0).trans st42
            have wg83 : WGT (dt70 72) (dt70 71 1) F (FQ F p1 p2 p3) (dt 11 (((p1 * 4) + 0)).toNat) := by rw [show dt70 72 = dt35 72 from funext (hF72 72 (by decide)), hF72 71 (by decide) 1]; exact wg43
            have hA84 := wg83.2.2
            have hP85 := wg83.2.1
            refine go_retq PM79 (k := 2) (r := some (.inl (dt35 9 (((p2 * 11) + 0)).toNat))) (w1 := (SH, dt70)) rfl ?_
            exact ⟨dt70, rfl, hI71, hF73, (Or.inr ⟨_, rfl, ⟨by (first | omega | (have z0_ := unhid c18; omega)), by (first | omega | (have z0_ := unhid c18; omega))⟩, ⟨by first | exact True.intro | with_reducible assumption | exact unhid (by with_reducible assumption) | rfl | (first | omega | (have z0_ := unhid c18; omega)) | trivial, by exact st82, by first | exact True.intro | with_reducible assumption | exact unhid (by with_reducible assumption) | rfl | (first | omega | (have z0_ := unhid c18; omega)) | trivial, by unfold AKB; rw [← ec_.1]; first | (rw [if_pos (by (first | omega | (have z0_ := unhid c18; omega)))]; exact sd67) | (rw [if_neg (by (first | omega | (have z0_ := unhid c18; omega))), if_pos (by (first | omega | (have z0_ := unhid c18; omega)))]; exact dv26) | (rw [if_neg (by (first | omega | (have z0_ := unhid c18; omega))), if_neg (by (first | omega | (have z0_ := unhid c18; omega))), ← hA_, ← dv26, ← h31]; exact sd33), by exact K81, by exact R75, by exact R76, by exact R77, by exact R78, by rw [R79]; unfold AKR; rw [← ec_.1]; first | (rw [if_pos (by (first | omega | (have z0_ := unhid c18; omega)))]; done) | (rw [if_neg (by (first | omega | (have z0_ := unhid c18; omega))), ← hA_, ← dv26]; exact h31), by rw [R80]; unfold AKP; rw [← ec_.1]; first | (rw [if_pos (by (first | omega | (have z0_ := unhid c18; omega)))]; done) | (rw [if_neg (by (first | omega | (have z0_ := unhid c18; omega)))]; done)⟩⟩)⟩
      · skip
        refine go_toq PM79 (k := 2) (pc' := 53) (L' := [some (.inr (.inr (some 0))), some (.inl p1), some (.inl p2), some (.inl p3), some (.inl (-1)), none, none]) (st' := [.inl 4, .inr (.inr (some 0))]) (w' := (SH, dt8)) rfl ?_
        refine go_callq PM79 PM110 (Q' := _) rfl rfl rfl rfl (sp_X5_draw_f L xs sio (d + 4) dt8 hI9  4 ⟨by decide, by decide⟩ ) ?_
        rintro _ _ ⟨dt87, rfl, hI88, hF89, h86⟩
        refine ⟨rfl, ?_⟩
        have hF90 : Fr [1, 12, 13, 71, 72, 73, 74] dt dt87 := Fr_tr hF11 hF89 (by decide)
        have w91 : dt87 12 3 = dt8 12 3 := hF89 12 (by decide) 3
        rcases h86 with ⟨v_h86, rfl, h86r, h86⟩
        obtain ⟨h86_0, h86_1, h86_2⟩ := h86
        have k92 : ∀ j : Nat, dt87 13 j = dt 13 j := fun j => (hF89 13 (by decide) j).trans (k14 j)
        have dv93 : v_h86 = DVW (DRW (dt 1 0)) 4 := by have z_ := h86_2; rw [st16] at z_; exact z_
        have st94 : dt87 1 0 = DRW (dt 1 0) := by rw [h86_1, st16]
        have wg95 : WGT (dt87 72) (dt87 71 1) F (FQ F p1 p2 p3) (dt 11 (((p1 * 4) + 0)).toNat) := by rw [show dt87 72 = dt8 72 from funext (hF89 72 (by decide)), hF89 71 (by decide) 1]; exact wg15
        have hA96 := wg95.2.2
        have hP97 := wg95.2.1
        refine go_toq PM79 (k := 4) (pc' := 96) (L' := [some (.inr (.inr (some 0))), some (.inl p1), some (.inl p2), some (.inl p3), some (.inl (-1)), some (.inl v_h86), none]) (st' := [.inl 100, .inr (.inr (some 0))]) (w' := (SH, dt87)) rfl ?_
        refine go_callq PM79 PM110 (Q' := _) rfl rfl rfl rfl (sp_X5_draw_f L xs sio (d + 4) dt87 hI88  100 ⟨by decide, by decide⟩ ) ?_
        rintro _ _ ⟨dt99, rfl, hI100, hF101, h98⟩
        refine ⟨rfl, ?_⟩
        have hF102 : Fr [1, 12, 13, 71, 72, 73, 74] dt dt99 := Fr_tr hF90 hF101 (by decide)
        have w103 : dt99 12 3 = dt87 12 3 := hF101 12 (by decide) 3
        rcases h98 with ⟨v_h98, rfl, h98r, h98⟩
        obtain ⟨h98_0, h98_1, h98_2⟩ := h98
        have k104 : ∀ j : Nat, dt99 13 j = dt 13 j := fun j => (hF101 13 (by decide) j).trans (k92 j)
        have dv105 : v_h98 = DVW (DRW (DRW (dt 1 0))) 100 := by have z_ := h98_2; rw [st94] at z_; exact z_
        have st106 : dt99 1 0 = DRW (DRW (dt 1 0)) := by rw [h98_1, st94]
        have wg107 : WGT (dt99 72) (dt99 71 1) F (FQ F p1 p2 p3) (dt 11 (((p1 * 4) + 0)).toNat) := by rw [show dt99 72 = dt87 72 from funext (hF101 72 (by decide)), hF101 71 (by decide) 1]; exact wg95
        have hA108 := wg107.2.2
        have hP109 := wg107.2.1
        refine go_toq PM79 (k := 4) (pc' := 108) (L' := [some (.inr (.inr (some 0))), some (.inl p1), some (.inl p2), some (.inl p3), some (.inl (-1)), some (.inl v_h86), none]) (st' := [.inl 8, .inr (.inr (some 72)), .inl v_h98]) (w' := (SH, dt99)) rfl ?_
        have r110 : 0 ≤ dt99 72 8 ∧ dt99 72 8 ≤ 100 := InvC_get hI100 72 8 rfl rfl
        refine go_smpq PM79 (L' := [some (.inr (.inr (some 0))), some (.inl p1), some (.inl p2), some (.inl p3), some (.inl (-1)), some (.inl v_h86), none]) (st' := [.inl (dt99 72 8), .inl v_h98]) (w' := (SH, dt99)) rfl rfl (s_iald (n := 9) (f := dt99 72) rfl ⟨by decide, by decide⟩) ?_
        refine go_ifq PM79 (k := 0) (p1 := 116) (p2 := 112) (L' := [some (.inr (.inr (some 0))), some (.inl p1), some (.inl p2), some (.inl p3), some (.inl (-1)), some (.inl v_h86), none]) (st' := []) (w' := (SH, dt99)) rfl (c_ge (a := v_h98) (b := dt99 72 8) (by first | exact bnd h98r (by decide) (by decide) | exact ⟨by omega, by omega⟩) (by first | exact bnd r110 (by decide) (by decide) | exact ⟨by omega, by omega⟩)) (fun c111 => ?_) (fun c111 => ?_)
        · skip
          refine go_toq PM79 (k := 15) (pc' := 159) (L' := [some (.inr (.inr (some 0))), some (.inl p1), some (.inl p2), some (.inl p3), some (.inl (-1)), some (.inl v_h86), some (.inl 0)]) (st' := [.inl 0, .inl (-1), .inl v_h86, .inl p3, .inl p2, .inl p1, .inr (.inr (some 12))]) (w' := (SH, dt99)) rfl ?_
          have r112 : 0 ≤ dt99 12 3 ∧ dt99 12 3 ≤ 300 := InvC_get hI100 12 3 rfl rfl
          refine go_callq PM79 PM40 (Q' := _) rfl rfl rfl rfl (sp_X2_add_12f L xs sio (d + 3) dt99 hI100  p1 (by first | exact h_p1 | exact bnd h_p1 (by decide) (by decide) | exact ⟨by omega, by omega⟩) p2 (by first | exact h_p2 | exact bnd h_p2 (by decide) (by decide) | exact ⟨by omega, by omega⟩) p3 (by first | exact h_p3 | exact bnd h_p3 (by decide) (by decide) | exact ⟨by omega, by omega⟩) v_h86 (by first | exact bnd h86r (by decide) (by decide) | exact ⟨by omega, by omega⟩) (-1) ⟨by decide, by decide⟩ 0 ⟨by decide, by decide⟩ ) ?_
          rintro _ _ ⟨dt114, rfl, hI115, hF116, h113⟩
          refine ⟨rfl, ?_⟩
          have hF117 : Fr [1, 12, 13, 71, 72, 73, 74] dt dt114 := Fr_tr hF102 hF116 (by decide)
          have w118 : dt114 1 0 = dt99 1 0 := hF116 1 (by decide) 0
          rcases h113 with ⟨rfl, h113⟩ | ⟨v_h113, rfl, h113r, h113⟩
          · skip
            obtain ⟨h113_0, h113_1, h113_2⟩ := h113
            exfalso; omega
          · skip
            obtain ⟨h113_0, h113_1, h113_2, h113_3, h113_4, h113_5, h113_6, h113_7, h113_8, h113_9⟩ := h113
            have R119 : dt114 13 (((dt 12 3) * 6) + 0).toNat = p1 := by rw [show (((dt 12 3) * 6) + 0).toNat = (((dt99 12 3) * 6) + 0).toNat by first | with_reducible assumption | omega]; exact h113_4
            have R120 : dt114 13 (((dt 12 3) * 6) + 1).toNat = p2 := by rw [show (((dt 12 3) * 6) + 1).toNat = (((dt99 12 3) * 6) + 1).toNat by first | with_reducible assumption | omega]; exact h113_5
            have R121 : dt114 13 (((dt 12 3) * 6) + 2).toNat = p3 := by rw [show (((dt 12 3) * 6) + 2).toNat = (((dt99 12 3) * 6) + 2).toNat by first | with_reducible assumption | omega]; exact h113_6
            have R122 : dt114 13 (((dt 12 3) * 6) + 3).toNat = v_h86 := by rw [show (((dt 12 3) * 6) + 3).toNat = (((dt99 12 3) * 6) + 3).toNat by first | with_reducible assumption | omega]; exact h113_7
            have R123 : dt114 13 (((dt 12 3) * 6) + 4).toNat = (-1) := by rw [show (((dt 12 3) * 6) + 4).toNat = (((dt99 12 3) * 6) + 4).toNat by first | with_reducible assumption | omega]; exact h113_8
            have R124 : dt114 13 (((dt 12 3) * 6) + 5).toNat = 0 := by rw [show (((dt 12 3) * 6) + 5).toNat = (((dt99 12 3) * 6) + 5).toNat by first | with_reducible assumption | omega]; exact h113_9
            have K125 : ∀ j : Nat, (j : Int) < 6 * dt 12 3 → dt114 13 j = dt 13 j := fun j hj => (h113_3 j (by omega)).trans (k104 j)
            have st126 : dt114 1 0 = (DRW (DRW (dt 1 0))) := (hF116 1 (by decide) 0).trans st106
            have wg127 : WGT (dt114 72) (dt114 71 1) F (FQ F p1 p2 p3) (dt 11 (((p1 * 4) + 0)).toNat) := by rw [show dt114 72 = dt99 72 from funext (hF116 72 (by decide)), hF116 71 (by decide) 1]; exact wg107
            have hA128 := wg127.2.2
            have hP129 := wg127.2.1
            refine go_retq PM79 (k := 2) (r := some (.inl v_h86)) (w1 := (SH, dt114)) rfl ?_
            exact ⟨dt114, rfl, hI115, hF117, (Or.inr ⟨_, rfl, (by first | exact bnd h86r (by decide) (by decide) | exact ⟨by omega, by omega⟩), ⟨by first | exact True.intro | with_reducible assumption | rfl | omega | trivial, by exact st126, by first | exact True.intro | with_reducible assumption | rfl | omega | trivial, by unfold AKB; rw [← ec_.1]; first | (rw [if_pos (by omega)]; exact hI) | (rw [if_neg (by omega), if_pos (by omega)]; exact dv93) | (rw [if_neg (by omega), if_neg (by omega), ← hA_, ← dv93, ← hI]; exact hI), by exact K125, by exact R119, by exact R120, by exact R121, by exact R122, by rw [R123]; unfold AKR; rw [← ec_.1]; first | (rw [if_pos (by omega)]; done) | (rw [if_neg (by omega), ← hA_, ← dv93]; exact hI), by rw [R124]; unfold AKP; rw [← ec_.1]; first | (rw [if_pos (by omega)]; done) | (rw [if_neg (by omega)]; done)⟩⟩)⟩
        · skip
          refine go_toq PM79 (k := 9) (pc' := 130) (L' := [some (.inr (.inr (some 0))), some (.inl p1), some (.inl p2), some (.inl p3), some (.inl (-1)), some (.inl v_h86), some (.inl 1)]) (st' := [.inl 0, .inl p2, .inr (.inr (some 1))]) (w' := (SH, dt99)) rfl ?_
          refine go_callq PM79 PM1 (Q' := _) rfl rfl rfl rfl (sp_X0_saidOf_f L xs sio (d + 3) dt99 hI100  p2 (by first | exact h_p2 | exact bnd h_p2 (by decide) (by decide) | exact ⟨by omega, by omega⟩) 0 ⟨by decide, by decide⟩ (by first | exact True.intro | with_reducible assumption | rfl | omega | trivial | exact wg107 | exact ALK_fr h_p0 hF102 (fun k a b z_ => by simp at z_; omega) | (rw [show dt99 9 = dt 9 from funext (hF102 9 (by decide))]; exact h_p0.2.2.1) | (rw [show dt99 7 3 = dt 7 3 from hF102 7 (by decide) 3]; first | omega | exact h_p0.2.2.2.2.1) | (rw [show dt99 10 3 = dt 10 3 from hF102 10 (by decide) 3]; omega))) ?_
          rintro _ _ ⟨rfl, h130⟩
          refine ⟨rfl, ?_⟩
          rcases h130 with ⟨rfl, h130⟩
          have sd131 : dt99 9 (((p2 * 11) + (0 : Int))).toNat = SAID F p2.toNat (0 : Int) := by rw [hF102 9 (by decide)]; have z_ := h_p0.2.2.1 p2.toNat (by have w_ := h_p0.2.2.2.2.1; omega) ((0 : Int)).toNat (by omega); rw [show 11 * p2.toNat + ((0 : Int)).toNat = (((p2 * 11) + (0 : Int))).toNat by first | with_reducible assumption | omega, show ((((0 : Int)).toNat : Nat) : Int) = (0 : Int) by first | with_reducible assumption | omega] at z_; exact z_
          refine go_toq PM79 (k := 13) (pc' := 159) (L' := [some (.inr (.inr (some 0))), some (.inl p1), some (.inl p2), some (.inl p3), some (.inl (-1)), some (.inl (dt99 9 (((p2 * 11) + 0)).toNat)), some (.inl 1)]) (st' := [.inl 1, .inl (-1), .inl (dt99 9 (((p2 * 11) + 0)).toNat), .inl p3, .inl p2, .inl p1, .inr (.inr (some 12))]) (w' := (SH, dt99)) rfl ?_
          have r132 : 0 ≤ dt99 12 3 ∧ dt99 12 3 ≤ 300 := InvC_get hI100 12 3 rfl rfl
          refine go_callq PM79 PM40 (Q' := _) rfl rfl rfl rfl (sp_X2_add_12f L xs sio (d + 3) dt99 hI100  p1 (by first | exact h_p1 | exact bnd h_p1 (by decide) (by decide) | exact ⟨by omega, by omega⟩) p2 (by first | exact h_p2 | exact bnd h_p2 (by decide) (by decide) | exact ⟨by omega, by omega⟩) p3 (by first | exact h_p3 | exact bnd h_p3 (by decide) (by decide) | exact ⟨by omega, by omega⟩) (dt99 9 (((p2 * 11) + 0)).toNat) ⟨by omega, by omega⟩ (-1) ⟨by decide, by decide⟩ 1 ⟨by decide, by decide⟩ ) ?_
          rintro _ _ ⟨dt134, rfl, hI135, hF136, h133⟩
          refine ⟨rfl, ?_⟩
          have hF137 : Fr [1, 12, 13, 71, 72, 73, 74] dt dt134 := Fr_tr hF102 hF136 (by decide)
          have w138 : dt134 1 0 = dt99 1 0 := hF136 1 (by decide) 0
          rcases h133 with ⟨rfl, h133⟩ | ⟨v_h133, rfl, h133r, h133⟩
          · skip
            obtain ⟨h133_0, h133_1, h133_2⟩ := h133
            exfalso; omega
          · skip
            obtain ⟨h133_0, h133_1, h133_2, h133_3, h133_4, h133_5, h133_6, h133_7, h133_8, h133_9⟩ := h133
            have R139 : dt134 13 (((dt 12 3) * 6) + 0).toNat = p1 := by rw [show (((dt 12 3) * 6) + 0).toNat = (((dt99 12 3) * 6) + 0).toNat by first | with_reducible assumption | omega]; exact h133_4
            have R140 : dt134 13 (((dt 12 3) * 6) + 1).toNat = p2 := by rw [show (((dt 12 3) * 6) + 1).toNat = (((dt99 12 3) * 6) + 1).toNat by first | with_reducible assumption | omega]; exact h133_5
            have R141 : dt134 13 (((dt 12 3) * 6) + 2).toNat = p3 := by rw [show (((dt 12 3) * 6) + 2).toNat = (((dt99 12 3) * 6) + 2).toNat by first | with_reducible assumption | omega]; exact h133_6
            have R142 : dt134 13 (((dt 12 3) * 6) + 3).toNat = dt99 9 (((p2 * 11) + 0)).toNat := by rw [show (((dt 12 3) * 6) + 3).toNat = (((dt99 12 3) * 6) + 3).toNat by first | with_reducible assumption | omega]; exact h133_7
            have R143 : dt134 13 (((dt 12 3) * 6) + 4).toNat = (-1) := by rw [show (((dt 12 3) * 6) + 4).toNat = (((dt99 12 3) * 6) + 4).toNat by first | with_reducible assumption | omega]; exact h133_8
            have R144 : dt134 13 (((dt 12 3) * 6) + 5).toNat = 1 := by rw [show (((dt 12 3) * 6) + 5).toNat = (((dt99 12 3) * 6) + 5).toNat by first | with_reducible assumption | omega]; exact h133_9
            have K145 : ∀ j : Nat, (j : Int) < 6 * dt 12 3 → dt134 13 j = dt 13 j := fun j hj => (h133_3 j (by omega)).trans (k104 j)
            have st146 : dt134 1 0 = (DRW (DRW (dt 1 0))) := (hF136 1 (by decide) 0).trans st106
            have wg147 : WGT (dt134 72) (dt134 71 1) F (FQ F p1 p2 p3) (dt 11 (((p1 * 4) + 0)).toNat) := by rw [show dt134 72 = dt99 72 from funext (hF136 72 (by decide)), hF136 71 (by decide) 1]; exact wg107
            have hA148 := wg147.2.2
            have hP149 := wg147.2.1
            refine go_retq PM79 (k := 2) (r := some (.inl (dt99 9 (((p2 * 11) + 0)).toNat))) (w1 := (SH, dt134)) rfl ?_
            exact ⟨dt134, rfl, hI135, hF137, (Or.inr ⟨_, rfl, ⟨by omega, by omega⟩, ⟨by first | exact True.intro | with_reducible assumption | rfl | omega | trivial, by exact st146, by first | exact True.intro | with_reducible assumption | rfl | omega | trivial, by unfold AKB; rw [← ec_.1]; first | (rw [if_pos (by omega)]; exact sd131) | (rw [if_neg (by omega), if_pos (by omega)]; exact dv93) | (rw [if_neg (by omega), if_neg (by omega), ← hA_, ← dv93, ← hI]; exact hI), by exact K145, by exact R139, by exact R140, by exact R141, by exact R142, by rw [R143]; unfold AKR; rw [← ec_.1]; first | (rw [if_pos (by omega)]; done) | (rw [if_neg (by omega), ← hA_, ← dv93]; exact hI), by rw [R144]; unfold AKP; rw [← ec_.1]; first | (rw [if_pos (by omega)]; done) | (rw [if_neg (by omega)]; done)⟩⟩)⟩
  · skip
    refine go_retq PM79 (k := 2) (r := some (.inl (-2))) (w1 := (SH, dt)) rfl ?_
    first | exact ⟨dt, rfl, hI, hF, (Or.inl ⟨rfl, ⟨by first | exact True.intro | with_reducible assumption | rfl | omega | trivial, by first | exact True.intro | with_reducible assumption | rfl | omega | trivial, by first | exact True.intro | with_reducible assumption | rfl | omega | trivial, by first | exact fun _ => rfl | assumption⟩⟩)⟩ | exact ⟨dt, rfl, hI, hF, (Or.inr ⟨_, rfl, ⟨by decide, by decide⟩, ⟨by first | exact True.intro | with_reducible assumption | rfl | omega | trivial, by exact hI, by first | exact True.intro | with_reducible assumption | rfl | omega | trivial, by unfold AKB; rw [← ec_.1]; first | (rw [if_pos (by omega)]; exact hI) | (rw [if_neg (by omega), if_pos (by omega)]; exact hI) | (rw [if_neg (by omega), if_neg (by omega), ← hA_, ← hI, ← hI]; exact hI), by exact hI, by exact hI, by exact hI, by exact hI, by exact hI, by rw [hI]; unfold AKR; rw [← ec_.1]; first | (rw [if_pos (by omega)]; done) | (rw [if_neg (by omega), ← hA_, ← hI]; exact hI), by rw [hI]; unfold AKP; rw [← ec_.1]; first | (rw [if_pos (by omega)]; done) | (rw [if_neg (by omega)]; done)⟩⟩)⟩
theorem sp_X2_at_12f (L : Nat) (xs : Nat → Int32) (sio : Option Nat) (d : Nat) (dt : Nat → Nat → Int) (hI : InvC dt)  (p1 : Int) (h_p1 : 0 ≤ p1 ∧ p1 ≤ 299) (p2 : Int) (h_p2 : 0 ≤ p2 ∧ p2 ≤ 5) (h_p0 : p1 < dt 12 3) : GO (am_XX L xs sio) (d + 1) 39 0 [some (.inr (.inr (some 12))), some (.inl p1), some (.inl p2)] [] (SH, dt) (fun r w2 => w2 = (SH, dt) ∧ ((r = some (.inl (dt 13 (((p1 * 6) + p2)).toNat)) ∧ (-2147483648 ≤ dt 13 (((p1 * 6) + p2)).toNat ∧ dt 13 (((p1 * 6) + p2)).toNat ≤ 2147483647)))) := by
  have r1 : 0 ≤ dt 12 3 ∧ dt 12 3 ≤ 300 := InvC_get hI 12 3 rfl rfl
  refine go_toq PM39 (k := 2) (pc' := 2) (L' := [some (.inr (.inr (some 12))), some (.inl p1), some (.inl p2)]) (st' := [.inl p1, .inr (.inr (some 12))]) (w' := (SH, dt)) rfl ?_
  refine go_callq PM39 PM37 (Q' := _) rfl rfl rfl rfl (sp_X2_has_12 L xs sio (d + 0) dt hI  p1 (by first | exact h_p1 | exact bnd h_p1 (by decide) (by decide) | exact ⟨by omega, by omega⟩) ) ?_
  rintro _ _ ⟨rfl, h2⟩
  refine ⟨rfl, ?_⟩
  rcases h2 with ⟨rfl, h2⟩ | ⟨rfl, h2⟩
  · skip
    refine go_ifq PM39 (k := 2) (p1 := 36) (p2 := 12) (L' := [some (.inr (.inr (some 12))), some (.inl p1), some (.inl p2)]) (st' := []) (w' := (SH, dt)) rfl (z_lt (a := p2) (by first | exact bnd h_p2 (by decide) (by decide) | exact ⟨by omega, by omega⟩)) (fun c3 => ?_) (fun c3 => ?_)
    · exfalso; omega
    · skip
      refine go_toq PM39 (k := 2) (pc' := 14) (L' := [some (.inr (.inr (some 12))), some (.inl p1), some (.inl p2)]) (st' := [.inr (.inr (some 12)), .inl p2]) (w' := (SH, dt)) rfl ?_
      refine go_smpq PM39 (L' := [some (.inr (.inr (some 12))), some (.inl p1), some (.inl p2)]) (st' := [.inl 6, .inl p2]) (w' := (SH, dt)) rfl rfl (s_gfc rfl rfl rfl (hI.2 12 1 rfl)) ?_
      refine go_ifq PM39 (k := 0) (p1 := 36) (p2 := 20) (L' := [some (.inr (.inr (some 12))), some (.inl p1), some (.inl p2)]) (st' := []) (w' := (SH, dt)) rfl (c_ge (a := p2) (b := 6) (by first | exact bnd h_p2 (by decide) (by decide) | exact ⟨by omega, by omega⟩) ⟨by decide, by decide⟩) (fun c4 => ?_) (fun c4 => ?_)
      · exfalso; omega
      · skip
        refine go_toq PM39 (k := 4) (pc' := 26) (L' := [some (.inr (.inr (some 12))), some (.inl p1), some (.inl p2)]) (st' := [.inr (.inr (some 12)), .inl p1, .inr (.inr (some 13))]) (w' := (SH, dt)) rfl ?_
        refine go_smpq PM39 (L' := [some (.inr (.inr (some 12))), some (.inl p1), some (.inl p2)]) (st' := [.inl 6, .inl p1, .inr (.inr (some 13))]) (w' := (SH, dt)) rfl rfl (s_gfc rfl rfl rfl (hI.2 12 1 rfl)) ?_
        refine go_toq PM39 (k := 3) (pc' := 32) (L' := [some (.inr (.inr (some 12))), some (.inl p1), some (.inl p2)]) (st' := [.inl ((p1 * 6) + p2), .inr (.inr (some 13))]) (w' := (SH, dt)) rfl ?_
        have r5 : (-2147483648) ≤ dt 13 (((p1 * 6) + p2).toNat) ∧ dt 13 (((p1 * 6) + p2).toNat) ≤ 2147483647 := InvC_get hI 13 (((p1 * 6) + p2).toNat) rfl rfl
        refine go_smpq PM39 (L' := [some (.inr (.inr (some 12))), some (.inl p1), some (.inl p2)]) (st' := [.inl (dt 13 (((p1 * 6) + p2).toNat))]) (w' := (SH, dt)) rfl rfl (s_iald (n := 1800) (f := dt 13) rfl ⟨by omega, by omega⟩) ?_
        refine go_retq PM39 (k := 1) (r := some (.inl (dt 13 (((p1 * 6) + p2).toNat)))) (w1 := (SH, dt)) rfl ?_
        exact ⟨rfl, ⟨rfl, by first | exact True.intro | with_reducible assumption | rfl | omega | trivial⟩⟩
  · skip
    exfalso; omega
theorem sp_X2_at_12_0 (L : Nat) (xs : Nat → Int32) (sio : Option Nat) (d : Nat) (dt : Nat → Nat → Int) (hI : InvC dt)  (p1 : Int) (h_p1 : 0 ≤ p1 ∧ p1 ≤ 299) (h_p0 : p1 < dt 12 3) : GO (am_XX L xs sio) (d + 1) 39 0 [some (.inr (.inr (some 12))), some (.inl p1), some (.inl 0)] [] (SH, dt) (fun r w2 => w2 = (SH, dt) ∧ ((r = some (.inl (dt 13 (((p1 * 6) + 0)).toNat)) ∧ (-2147483648 ≤ dt 13 (((p1 * 6) + 0)).toNat ∧ dt 13 (((p1 * 6) + 0)).toNat ≤ 2147483647)))) := by
  have r1 : 0 ≤ dt 12 3 ∧ dt 12 3 ≤ 300 := InvC_get hI 12 3 rfl rfl
  refine go_toq PM39 (k := 2) (pc' := 2) (L' := [some (.inr (.inr (some 12))), some (.inl p1), some (.inl 0)]) (st' := [.inl p1, .inr (.inr (some 12))]) (w' := (SH, dt)) rfl ?_
  refine go_callq PM39 PM37 (Q' := _) rfl rfl rfl rfl (sp_X2_has_12 L xs sio (d + 0) dt hI  p1 (by first | exact h_p1 | exact bnd h_p1 (by decide) (by decide) | exact ⟨by omega, by omega⟩) ) ?_
  rintro _ _ ⟨rfl, h2⟩
  refine ⟨rfl, ?_⟩
  rcases h2 with ⟨rfl, h2⟩ | ⟨rfl, h2⟩
  · skip
    refine go_toq PM39 (k := 5) (pc' := 14) (L' := [some (.inr (.inr (some 12))), some (.inl p1), some (.inl 0)]) (st' := [.inr (.inr (some 12)), .inl 0]) (w' := (SH, dt)) rfl ?_
    refine go_smpq PM39 (L' := [some (.inr (.inr (some 12))), some (.inl p1), some (.inl 0)]) (st' := [.inl 6, .inl 0]) (w' := (SH, dt)) rfl rfl (s_gfc rfl rfl rfl (hI.2 12 1 rfl)) ?_
    refine go_toq PM39 (k := 5) (pc' := 26) (L' := [some (.inr (.inr (some 12))), some (.inl p1), some (.inl 0)]) (st' := [.inr (.inr (some 12)), .inl p1, .inr (.inr (some 13))]) (w' := (SH, dt)) rfl ?_
    refine go_smpq PM39 (L' := [some (.inr (.inr (some 12))), some (.inl p1), some (.inl 0)]) (st' := [.inl 6, .inl p1, .inr (.inr (some 13))]) (w' := (SH, dt)) rfl rfl (s_gfc rfl rfl rfl (hI.2 12 1 rfl)) ?_
    refine go_toq PM39 (k := 3) (pc' := 32) (L' := [some (.inr (.inr (some 12))), some (.inl p1), some (.inl 0)]) (st' := [.inl ((p1 * 6) + 0), .inr (.inr (some 13))]) (w' := (SH, dt)) rfl ?_
    have r3 : (-2147483648) ≤ dt 13 (((p1 * 6) + 0).toNat) ∧ dt 13 (((p1 * 6) + 0).toNat) ≤ 2147483647 := InvC_get hI 13 (((p1 * 6) + 0).toNat) rfl rfl
    refine go_smpq PM39 (L' := [some (.inr (.inr (some 12))), some (.inl p1), some (.inl 0)]) (st' := [.inl (dt 13 (((p1 * 6) + 0).toNat))]) (w' := (SH, dt)) rfl rfl (s_iald (n := 1800) (f := dt 13) rfl ⟨by omega, by omega⟩) ?_
    refine go_retq PM39 (k := 1) (r := some (.inl (dt 13 (((p1 * 6) + 0).toNat)))) (w1 := (SH, dt)) rfl ?_
    exact ⟨rfl, ⟨rfl, by first | exact True.intro | with_reducible assumption | rfl | omega | trivial⟩⟩
  · skip
    exfalso; omega
theorem sp_X2_at_12_1 (L : Nat) (xs : Nat → Int32) (sio : Option Nat) (d : Nat) (dt : Nat → Nat → Int) (hI : InvC dt)  (p1 : Int) (h_p1 : 0 ≤ p1 ∧ p1 ≤ 299) (h_p0 : p1 < dt 12 3) : GO (am_XX L xs sio) (d + 1) 39 0 [some (.inr (.inr (some 12))), some (.inl p1), some (.inl 1)] [] (SH, dt) (fun r w2 => w2 = (SH, dt) ∧ ((r = some (.inl (dt 13 (((p1 * 6) + 1)).toNat)) ∧ (-2147483648 ≤ dt 13 (((p1 * 6) + 1)).toNat ∧ dt 13 (((p1 * 6) + 1)).toNat ≤ 2147483647)))) := by
  have r1 : 0 ≤ dt 12 3 ∧ dt 12 3 ≤ 300 := InvC_get hI 12 3 rfl rfl
  refine go_toq PM39 (k := 2) (pc' := 2) (L' := [some (.inr (.inr (some 12))), some (.inl p1), some (.inl 1)]) (st' := [.inl p1, .inr (.inr (some 12))]) (w' := (SH, dt)) rfl ?_
  refine go_callq PM39 PM37 (Q' := _) rfl rfl rfl rfl (sp_X2_has_12 L xs sio (d + 0) dt hI  p1 (by first | exact h_p1 | exact bnd h_p1 (by decide) (by decide) | exact ⟨by omega, by omega⟩) ) ?_
  rintro _ _ ⟨rfl, h2⟩
  refine ⟨rfl, ?_⟩
  rcases h2 with ⟨rfl, h2⟩ | ⟨rfl, h2⟩
  · skip
    refine go_toq PM39 (k := 5) (pc' := 14) (L' := [some (.inr (.inr (some 12))), some (.inl p1), some (.inl 1)]) (st' := [.inr (.inr (some 12)), .inl 1]) (w' := (SH, dt)) rfl ?_
    refine go_smpq PM39 (L' := [some (.inr (.inr (some 12))), some (.inl p1), some (.inl 1)]) (st' := [.inl 6, .inl 1]) (w' := (SH, dt)) rfl rfl (s_gfc rfl rfl rfl (hI.2 12 1 rfl)) ?_
    refine go_toq PM39 (k := 5) (pc' := 26) (L' := [some (.inr (.inr (some 12))), some (.inl p1), some (.inl 1)]) (st' := [.inr (.inr (some 12)), .inl p1, .inr (.inr (some 13))]) (w' := (SH, dt)) rfl ?_
    refine go_smpq PM39 (L' := [some (.inr (.inr (some 12))), some (.inl p1), some (.inl 1)]) (st' := [.inl 6, .inl p1, .inr (.inr (some 13))]) (w' := (SH, dt)) rfl rfl (s_gfc rfl rfl rfl (hI.2 12 1 rfl)) ?_
    refine go_toq PM39 (k := 3) (pc' := 32) (L' := [some (.inr (.inr (some 12))), some (.inl p1), some (.inl 1)]) (st' := [.inl ((p1 * 6) + 1), .inr (.inr (some 13))]) (w' := (SH, dt)) rfl ?_
    have r3 : (-2147483648) ≤ dt 13 (((p1 * 6) + 1).toNat) ∧ dt 13 (((p1 * 6) + 1).toNat) ≤ 2147483647 := InvC_get hI 13 (((p1 * 6) + 1).toNat) rfl rfl
    refine go_smpq PM39 (L' := [some (.inr (.inr (some 12))), some (.inl p1), some (.inl 1)]) (st' := [.inl (dt 13 (((p1 * 6) + 1).toNat))]) (w' := (SH, dt)) rfl rfl (s_iald (n := 1800) (f := dt 13) rfl ⟨by omega, by omega⟩) ?_
    refine go_retq PM39 (k := 1) (r := some (.inl (dt 13 (((p1 * 6) + 1).toNat)))) (w1 := (SH, dt)) rfl ?_
    exact ⟨rfl, ⟨rfl, by first | exact True.intro | with_reducible assumption | rfl | omega | trivial⟩⟩
  · skip
    exfalso; omega
theorem sp_X2_at_12_2 (L : Nat) (xs : Nat → Int32) (sio : Option Nat) (d : Nat) (dt : Nat → Nat → Int) (hI : InvC dt)  (p1 : Int) (h_p1 : 0 ≤ p1 ∧ p1 ≤ 299) (h_p0 : p1 < dt 12 3) : GO (am_XX L xs sio) (d + 1) 39 0 [some (.inr (.inr (some 12))), some (.inl p1), some (.inl 2)] [] (SH, dt) (fun r w2 => w2 = (SH, dt) ∧ ((r = some (.inl (dt 13 (((p1 * 6) + 2)).toNat)) ∧ (-2147483648 ≤ dt 13 (((p1 * 6) + 2)).toNat ∧ dt 13 (((p1 * 6) + 2)).toNat ≤ 2147483647)))) := by
  have r1 : 0 ≤ dt 12 3 ∧ dt 12 3 ≤ 300 := InvC_get hI 12 3 rfl rfl
  refine go_toq PM39 (k := 2) (pc' := 2) (L' := [some (.inr (.inr (some 12))), some (.inl p1), some (.inl 2)]) (st' := [.inl p1, .inr (.inr (some 12))]) (w' := (SH, dt)) rfl ?_
  refine go_callq PM39 PM37 (Q' := _) rfl rfl rfl rfl (sp_X2_has_12 L xs sio (d + 0) dt hI  p1 (by first | exact h_p1 | exact bnd h_p1 (by decide) (by decide) | exact ⟨by omega, by omega⟩) ) ?_
  rintro _ _ ⟨rfl, h2⟩
  refine ⟨rfl, ?_⟩
  rcases h2 with ⟨rfl, h2⟩ | ⟨rfl, h2⟩
  · skip
    refine go_toq PM39 (k := 5) (pc' := 14) (L' := [some (.inr (.inr (some 12))), some (.inl p1), some (.inl 2)]) (st' := [.inr (.inr (some 12)), .inl 2]) (w' := (SH, dt)) rfl ?_
    refine go_smpq PM39 (L' := [some (.inr (.inr (some 12))), some (.inl p1), some (.inl 2)]) (st' := [.inl 6, .inl 2]) (w' := (SH, dt)) rfl rfl (s_gfc rfl rfl rfl (hI.2 12 1 rfl)) ?_
    refine go_toq PM39 (k := 5) (pc' := 26) (L' := [some (.inr (.inr (some 12))), some (.inl p1), some (.inl 2)]) (st' := [.inr (.inr (some 12)), .inl p1, .inr (.inr (some 13))]) (w' := (SH, dt)) rfl ?_
    refine go_smpq PM39 (L' := [some (.inr (.inr (some 12))), some (.inl p1), some (.inl 2)]) (st' := [.inl 6, .inl p1, .inr (.inr (some 13))]) (w' := (SH, dt)) rfl rfl (s_gfc rfl rfl rfl (hI.2 12 1 rfl)) ?_
    refine go_toq PM39 (k := 3) (pc' := 32) (L' := [some (.inr (.inr (some 12))), some (.inl p1), some (.inl 2)]) (st' := [.inl ((p1 * 6) + 2), .inr (.inr (some 13))]) (w' := (SH, dt)) rfl ?_
    have r3 : (-2147483648) ≤ dt 13 (((p1 * 6) + 2).toNat) ∧ dt 13 (((p1 * 6) + 2).toNat) ≤ 2147483647 := InvC_get hI 13 (((p1 * 6) + 2).toNat) rfl rfl
    refine go_smpq PM39 (L' := [some (.inr (.inr (some 12))), some (.inl p1), some (.inl 2)]) (st' := [.inl (dt 13 (((p1 * 6) + 2).toNat))]) (w' := (SH, dt)) rfl rfl (s_iald (n := 1800) (f := dt 13) rfl ⟨by omega, by omega⟩) ?_
    refine go_retq PM39 (k := 1) (r := some (.inl (dt 13 (((p1 * 6) + 2).toNat)))) (w1 := (SH, dt)) rfl ?_
    exact ⟨rfl, ⟨rfl, by first | exact True.intro | with_reducible assumption | rfl | omega | trivial⟩⟩
  · skip
    exfalso; omega
theorem sp_X2_at_12_3 (L : Nat) (xs : Nat → Int32) (sio : Option Nat) (d : Nat) (dt : Nat → Nat → Int) (hI : InvC dt)  (p1 : Int) (h_p1 : 0 ≤ p1 ∧ p1 ≤ 299) (h_p0 : p1 < dt 12 3) : GO (am_XX L xs sio) (d + 1) 39 0 [some (.inr (.inr (some 12))), some (.inl p1), some (.inl 3)] [] (SH, dt) (fun r w2 => w2 = (SH, dt) ∧ ((r = some (.inl (dt 13 (((p1 * 6) + 3)).toNat)) ∧ (-2147483648 ≤ dt 13 (((p1 * 6) + 3)).toNat ∧ dt 13 (((p1 * 6) + 3)).toNat ≤ 2147483647)))) := by
  have r1 : 0 ≤ dt 12 3 ∧ dt 12 3 ≤ 300 := InvC_get hI 12 3 rfl rfl
  refine go_toq PM39 (k := 2) (pc' := 2) (L' := [some (.inr (.inr (some 12))), some (.inl p1), some (.inl 3)]) (st' := [.inl p1, .inr (.inr (some 12))]) (w' := (SH, dt)) rfl ?_
  refine go_callq PM39 PM37 (Q' := _) rfl rfl rfl rfl (sp_X2_has_12 L xs sio (d + 0) dt hI  p1 (by first | exact h_p1 | exact bnd h_p1 (by decide) (by decide) | exact ⟨by omega, by omega⟩) ) ?_
  rintro _ _ ⟨rfl, h2⟩
  refine ⟨rfl, ?_⟩
  rcases h2 with ⟨rfl, h2⟩ | ⟨rfl, h2⟩
  · skip
    refine go_toq PM39 (k := 5) (pc' := 14) (L' := [some (.inr (.inr (some 12))), some (.inl p1), some (.inl 3)]) (st' := [.inr (.inr (some 12)), .inl 3]) (w' := (SH, dt)) rfl ?_
    refine go_smpq PM39 (L' := [some (.inr (.inr (some 12))), some (.inl p1), some (.inl 3)]) (st' := [.inl 6, .inl 3]) (w' := (SH, dt)) rfl rfl (s_gfc rfl rfl rfl (hI.2 12 1 rfl)) ?_
    refine go_toq PM39 (k := 5) (pc' := 26) (L' := [some (.inr (.inr (some 12))), some (.inl p1), some (.inl 3)]) (st' := [.inr (.inr (some 12)), .inl p1, .inr (.inr (some 13))]) (w' := (SH, dt)) rfl ?_
    refine go_smpq PM39 (L' := [some (.inr (.inr (some 12))), some (.inl p1), some (.inl 3)]) (st' := [.inl 6, .inl p1, .inr (.inr (some 13))]) (w' := (SH, dt)) rfl rfl (s_gfc rfl rfl rfl (hI.2 12 1 rfl)) ?_
    refine go_toq PM39 (k := 3) (pc' := 32) (L' := [some (.inr (.inr (some 12))), some (.inl p1), some (.inl 3)]) (st' := [.inl ((p1 * 6) + 3), .inr (.inr (some 13))]) (w' := (SH, dt)) rfl ?_
    have r3 : (-2147483648) ≤ dt 13 (((p1 * 6) + 3).toNat) ∧ dt 13 (((p1 * 6) + 3).toNat) ≤ 2147483647 := InvC_get hI 13 (((p1 * 6) + 3).toNat) rfl rfl
    refine go_smpq PM39 (L' := [some (.inr (.inr (some 12))), some (.inl p1), some (.inl 3)]) (st' := [.inl (dt 13 (((p1 * 6) + 3).toNat))]) (w' := (SH, dt)) rfl rfl (s_iald (n := 1800) (f := dt 13) rfl ⟨by omega, by omega⟩) ?_
    refine go_retq PM39 (k := 1) (r := some (.inl (dt 13 (((p1 * 6) + 3).toNat)))) (w1 := (SH, dt)) rfl ?_
    exact ⟨rfl, ⟨rfl, by first | exact True.intro | with_reducible assumption | rfl | omega | trivial⟩⟩
  · skip
    exfalso; omega
theorem sp_X5_answer_f (L : Nat) (xs : Nat → Int32) (sio : Option Nat) (d : Nat) (dt : Nat → Nat → Int) (hI : InvC dt)  (p1 : Int) (h_p1 : (-2147483648) ≤ p1 ∧ p1 ≤ 2147483647) (p2 : Int) (h_p2 : (-2147483648) ≤ p2 ∧ p2 ≤ 2147483647)  : GO (am_XX L xs sio) (d + 2) 81 0 [some (.inr (.inr (some 0))), some (.inl p1), some (.inl p2)] [] (SH, dt) (fun r w2 => w2 = (SH, dt) ∧ ((r = some (.inl (-2)) ∧ (¬ ((0 ≤ p1 ∧ p1 < dt 12 3) ∧ (0 ≤ p2 ∧ p2 ≤ 5)))) ∨ (∃ v : Int, r = some (.inl v) ∧ ((-2147483648) ≤ v ∧ v ≤ 2147483647) ∧ ((0 ≤ p1 ∧ p1 < dt 12 3) ∧ (0 ≤ p2 ∧ p2 ≤ 5)) ∧ (v = dt 13 (6 * p1.toNat + p2.toNat))))) := by
  have r1 : 0 ≤ dt 12 3 ∧ dt 12 3 ≤ 300 := InvC_get hI 12 3 rfl rfl
  refine go_toq PM81 (k := 4) (pc' := 8) (L' := [some (.inr (.inr (some 0))), some (.inl p1), some (.inl p2)]) (st' := [.inl p1, .inr (.inr (some 12))]) (w' := (SH, dt)) rfl ?_
  refine go_callq PM81 PM37 (Q' := _) rfl rfl rfl rfl (sp_X2_has_12 L xs sio (d + 1) dt hI  p1 (by first | exact h_p1 | exact bnd h_p1 (by decide) (by decide) | exact ⟨by omega, by omega⟩) ) ?_
  rintro _ _ ⟨rfl, h2⟩
  refine ⟨rfl, ?_⟩
  rcases h2 with ⟨rfl, h2⟩ | ⟨rfl, h2⟩
  · skip
    refine go_toq PM81 (k := 4) (pc' := 17) (L' := [some (.inr (.inr (some 0))), some (.inl p1), some (.inl p2)]) (st' := [.inl 5, .inl 0, .inl p2]) (w' := (SH, dt)) rfl ?_
    refine go_callq PM81 PM100 (Q' := _) rfl rfl rfl rfl (sp_X5_within L xs sio (d + 1) dt hI  p2 (by first | exact h_p2 | exact bnd h_p2 (by decide) (by decide) | exact ⟨by omega, by omega⟩) 0 ⟨by decide, by decide⟩ 5 ⟨by decide, by decide⟩ ) ?_
    rintro _ _ ⟨rfl, h3⟩
    refine ⟨rfl, ?_⟩
    rcases h3 with ⟨rfl, h3⟩ | ⟨rfl, h3⟩
    · skip
      refine go_toq PM81 (k := 6) (pc' := 35) (L' := [some (.inr (.inr (some 0))), some (.inl p1), some (.inl p2)]) (st' := [.inl p2, .inl p1, .inr (.inr (some 12))]) (w' := (SH, dt)) rfl ?_
      refine go_callq PM81 PM39 (Q' := _) rfl rfl rfl rfl (sp_X2_at_12f L xs sio (d + 0) dt hI  p1 (by first | exact h_p1 | exact bnd h_p1 (by decide) (by decide) | exact ⟨by omega, by omega⟩) p2 (by first | exact h_p2 | exact bnd h_p2 (by decide) (by decide) | exact ⟨by omega, by omega⟩) (by first | exact True.intro | with_reducible assumption | rfl | omega | trivial)) ?_
      rintro _ _ ⟨rfl, h4⟩
      refine ⟨rfl, ?_⟩
      rcases h4 with ⟨rfl, h4⟩
      refine go_retq PM81 (k := 0) (r := some (.inl (dt 13 (((p1 * 6) + p2)).toNat))) (w1 := (SH, dt)) rfl ?_
      exact ⟨rfl, (Or.inr ⟨_, rfl, ⟨by omega, by omega⟩, ⟨by first | exact True.intro | with_reducible assumption | rfl | omega | trivial, by rw [show 6 * p1.toNat + p2.toNat = (((p1 * 6) + p2)).toNat by first | with_reducible assumption | omega]⟩⟩)⟩
    · skip
      refine go_retq PM81 (k := 2) (r := some (.inl (-2))) (w1 := (SH, dt)) rfl ?_
      first | exact ⟨rfl, (Or.inl ⟨rfl, by first | exact True.intro | with_reducible assumption | rfl | omega | trivial⟩)⟩ | exact ⟨rfl, (Or.inr ⟨_, rfl, ⟨by decide, by decide⟩, ⟨by first | exact True.intro | with_reducible assumption | rfl | omega | trivial, by rw [show 6 * p1.toNat + p2.toNat = (((p1 * 6) + p2)).toNat by first | with_reducible assumption | omega]⟩⟩)⟩
  · skip
    refine go_retq PM81 (k := 2) (r := some (.inl (-2))) (w1 := (SH, dt)) rfl ?_
    first | exact ⟨rfl, (Or.inl ⟨rfl, by first | exact True.intro | with_reducible assumption | rfl | omega | trivial⟩)⟩ | exact ⟨rfl, (Or.inr ⟨_, rfl, ⟨by decide, by decide⟩, ⟨by first | exact True.intro | with_reducible assumption | rfl | omega | trivial, by rw [show 6 * p1.toNat + p2.toNat = (((p1 * 6) + p2)).toNat by first | with_reducible assumption | omega]⟩⟩)⟩
