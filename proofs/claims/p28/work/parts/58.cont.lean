theorem sp_X2_set_14_0 (L : Nat) (xs : Nat → Int32) (sio : Option Nat) (d : Nat) (dt : Nat → Nat → Int) (hI : InvC dt)  (p2 : Int) (h_p2 : (-2147483648) ≤ p2 ∧ p2 ≤ 2147483647) (h_p0 : 0 < dt 14 3) : GO (am_XX L xs sio) (d) 41 0 [some (.inr (.inr (some 14))), some (.inl 0), some (.inl p2)] [] (SH, dt) (fun r w2 => ∃ dt2 : Nat → Nat → Int, w2 = (SH, dt2) ∧ InvC dt2 ∧ Fr [15] dt dt2 ∧ ((r = none ∧ (∀ j : Nat, ¬ (j : Int) = ((dt 14 3) - 1) * 2 + 0 → dt2 15 j = dt 15 j) ∧ (dt2 15 ((((dt 14 3) - 1) * 2) + 0).toNat = p2)))) := by
  have hF : Fr [15] dt dt := Fr_refl
  have r1 : 0 ≤ dt 14 3 ∧ dt 14 3 ≤ 40 := InvC_get hI 14 3 rfl rfl
  refine go_ifq PM41 (k := 2) (p1 := 34) (p2 := 7) (L' := [some (.inr (.inr (some 14))), some (.inl 0), some (.inl p2)]) (st' := []) (w' := (SH, dt)) rfl (z_le (a := dt 14 3) (by first | exact bnd r1 (by decide) (by decide) | exact ⟨by omega, by omega⟩)) (fun c2 => ?_) (fun c2 => ?_)
  · skip
    refine go_retq PM41 (k := 0) (r := none) (w1 := (SH, dt)) rfl ?_
    exact ⟨dt, rfl, hI, hF, ⟨rfl, ⟨by intro j hj; first | exact u2_ne (by omega) | (exfalso; omega), by first | exact u2_eq | (exfalso; omega)⟩⟩⟩
  · skip
    refine go_toq PM41 (k := 2) (pc' := 9) (L' := [some (.inr (.inr (some 14))), some (.inl 0), some (.inl p2)]) (st' := [.inr (.inr (some 14)), .inl 0]) (w' := (SH, dt)) rfl ?_
    refine go_smpq PM41 (L' := [some (.inr (.inr (some 14))), some (.inl 0), some (.inl p2)]) (st' := [.inl 2, .inl 0]) (w' := (SH, dt)) rfl rfl (s_gfc rfl rfl rfl (hI.2 14 1 rfl)) ?_
    refine go_toq PM41 (k := 8) (pc' := 26) (L' := [some (.inr (.inr (some 14))), some (.inl 0), some (.inl p2)]) (st' := [.inr (.inr (some 14)), .inl ((dt 14 3) - 1), .inr (.inr (some 15))]) (w' := (SH, dt)) rfl ?_
    refine go_smpq PM41 (L' := [some (.inr (.inr (some 14))), some (.inl 0), some (.inl p2)]) (st' := [.inl 2, .inl ((dt 14 3) - 1), .inr (.inr (some 15))]) (w' := (SH, dt)) rfl rfl (s_gfc rfl rfl rfl (hI.2 14 1 rfl)) ?_
    refine go_toq PM41 (k := 4) (pc' := 33) (L' := [some (.inr (.inr (some 14))), some (.inl 0), some (.inl p2)]) (st' := [.inl p2, .inl ((((dt 14 3) - 1) * 2) + 0), .inr (.inr (some 15))]) (w' := (SH, dt)) rfl ?_
    have hI3 : InvC (u2 dt 15 (((((dt 14 3) - 1) * 2) + 0).toNat) p2) := InvC_u2 hI (lo := -2147483648) (hi := 2147483647) rfl rfl rfl (by first | exact bnd1 h_p2 (by decide) | omega) (by first | exact bnd2 h_p2 (by decide) | omega)
    have hF4 : Fr [15] dt (u2 dt 15 (((((dt 14 3) - 1) * 2) + 0).toNat) p2) := Fr_u2 hF (by decide)
    refine go_smpq PM41 (L' := [some (.inr (.inr (some 14))), some (.inl 0), some (.inl p2)]) (st' := []) (w' := (SH, (u2 dt 15 (((((dt 14 3) - 1) * 2) + 0).toNat) p2))) rfl rfl (s_iast (n := 80) rfl ⟨by omega, by omega⟩ (by first | exact bnd h_p2 (by decide) (by decide) | exact ⟨by omega, by omega⟩)) ?_
    refine go_retq PM41 (k := 0) (r := none) (w1 := (SH, (u2 dt 15 (((((dt 14 3) - 1) * 2) + 0).toNat) p2))) rfl ?_
    exact ⟨(u2 dt 15 (((((dt 14 3) - 1) * 2) + 0).toNat) p2), rfl, hI3, hF4, ⟨rfl, ⟨by intro j hj; first | exact u2_ne (by omega) | (exfalso; omega), by first | exact u2_eq | (exfalso; omega)⟩⟩⟩
theorem sp_X2_set_14_1 (L : Nat) (xs : Nat → Int32) (sio : Option Nat) (d : Nat) (dt : Nat → Nat → Int) (hI : InvC dt)  (p2 : Int) (h_p2 : (-2147483648) ≤ p2 ∧ p2 ≤ 2147483647) (h_p0 : 0 < dt 14 3) : GO (am_XX L xs sio) (d) 41 0 [some (.inr (.inr (some 14))), some (.inl 1), some (.inl p2)] [] (SH, dt) (fun r w2 => ∃ dt2 : Nat → Nat → Int, w2 = (SH, dt2) ∧ InvC dt2 ∧ Fr [15] dt dt2 ∧ ((r = none ∧ (∀ j : Nat, ¬ (j : Int) = ((dt 14 3) - 1) * 2 + 1 → dt2 15 j = dt 15 j) ∧ (dt2 15 ((((dt 14 3) - 1) * 2) + 1).toNat = p2)))) := by
  have hF : Fr [15] dt dt := Fr_refl
  have r1 : 0 ≤ dt 14 3 ∧ dt 14 3 ≤ 40 := InvC_get hI 14 3 rfl rfl
  refine go_ifq PM41 (k := 2) (p1 := 34) (p2 := 7) (L' := [some (.inr (.inr (some 14))), some (.inl 1), some (.inl p2)]) (st' := []) (w' := (SH, dt)) rfl (z_le (a := dt 14 3) (by first | exact bnd r1 (by decide) (by decide) | exact ⟨by omega, by omega⟩)) (fun c2 => ?_) (fun c2 => ?_)
  · skip
    refine go_retq PM41 (k := 0) (r := none) (w1 := (SH, dt)) rfl ?_
    exact ⟨dt, rfl, hI, hF, ⟨rfl, ⟨by intro j hj; first | exact u2_ne (by omega) | (exfalso; omega), by first | exact u2_eq | (exfalso; omega)⟩⟩⟩
  · skip
    refine go_toq PM41 (k := 2) (pc' := 9) (L' := [some (.inr (.inr (some 14))), some (.inl 1), some (.inl p2)]) (st' := [.inr (.inr (some 14)), .inl 1]) (w' := (SH, dt)) rfl ?_
    refine go_smpq PM41 (L' := [some (.inr (.inr (some 14))), some (.inl 1), some (.inl p2)]) (st' := [.inl 2, .inl 1]) (w' := (SH, dt)) rfl rfl (s_gfc rfl rfl rfl (hI.2 14 1 rfl)) ?_
    refine go_toq PM41 (k := 8) (pc' := 26) (L' := [some (.inr (.inr (some 14))), some (.inl 1), some (.inl p2)]) (st' := [.inr (.inr (some 14)), .inl ((dt 14 3) - 1), .inr (.inr (some 15))]) (w' := (SH, dt)) rfl ?_
    refine go_smpq PM41 (L' := [some (.inr (.inr (some 14))), some (.inl 1), some (.inl p2)]) (st' := [.inl 2, .inl ((dt 14 3) - 1), .inr (.inr (some 15))]) (w' := (SH, dt)) rfl rfl (s_gfc rfl rfl rfl (hI.2 14 1 rfl)) ?_
    refine go_toq PM41 (k := 4) (pc' := 33) (L' := [some (.inr (.inr (some 14))), some (.inl 1), some (.inl p2)]) (st' := [.inl p2, .inl ((((dt 14 3) - 1) * 2) + 1), .inr (.inr (some 15))]) (w' := (SH, dt)) rfl ?_
    have hI3 : InvC (u2 dt 15 (((((dt 14 3) - 1) * 2) + 1).toNat) p2) := InvC_u2 hI (lo := -2147483648) (hi := 2147483647) rfl rfl rfl (by first | exact bnd1 h_p2 (by decide) | omega) (by first | exact bnd2 h_p2 (by decide) | omega)
    have hF4 : Fr [15] dt (u2 dt 15 (((((dt 14 3) - 1) * 2) + 1).toNat) p2) := Fr_u2 hF (by decide)
    refine go_smpq PM41 (L' := [some (.inr (.inr (some 14))), some (.inl 1), some (.inl p2)]) (st' := []) (w' := (SH, (u2 dt 15 (((((dt 14 3) - 1) * 2) + 1).toNat) p2))) rfl rfl (s_iast (n := 80) rfl ⟨by omega, by omega⟩ (by first | exact bnd h_p2 (by decide) (by decide) | exact ⟨by omega, by omega⟩)) ?_
    refine go_retq PM41 (k := 0) (r := none) (w1 := (SH, (u2 dt 15 (((((dt 14 3) - 1) * 2) + 1).toNat) p2))) rfl ?_
    exact ⟨(u2 dt 15 (((((dt 14 3) - 1) * 2) + 1).toNat) p2), rfl, hI3, hF4, ⟨rfl, ⟨by intro j hj; first | exact u2_ne (by omega) | (exfalso; omega), by first | exact u2_eq | (exfalso; omega)⟩⟩⟩
theorem sp_X2_set_14_2 (L : Nat) (xs : Nat → Int32) (sio : Option Nat) (d : Nat) (dt : Nat → Nat → Int) (hI : InvC dt)  (p2 : Int) (h_p2 : (-2147483648) ≤ p2 ∧ p2 ≤ 2147483647)  : GO (am_XX L xs sio) (d) 41 0 [some (.inr (.inr (some 14))), some (.inl 2), some (.inl p2)] [] (SH, dt) (fun r w2 => w2 = (SH, dt) ∧ ((r = none ∧ True))) := by
  have r1 : 0 ≤ dt 14 3 ∧ dt 14 3 ≤ 40 := InvC_get hI 14 3 rfl rfl
  refine go_ifq PM41 (k := 2) (p1 := 34) (p2 := 7) (L' := [some (.inr (.inr (some 14))), some (.inl 2), some (.inl p2)]) (st' := []) (w' := (SH, dt)) rfl (z_le (a := dt 14 3) (by first | exact bnd r1 (by decide) (by decide) | exact ⟨by omega, by omega⟩)) (fun c2 => ?_) (fun c2 => ?_)
  · skip
    refine go_retq PM41 (k := 0) (r := none) (w1 := (SH, dt)) rfl ?_
    exact ⟨rfl, ⟨rfl, trivial⟩⟩
  · skip
    refine go_toq PM41 (k := 2) (pc' := 9) (L' := [some (.inr (.inr (some 14))), some (.inl 2), some (.inl p2)]) (st' := [.inr (.inr (some 14)), .inl 2]) (w' := (SH, dt)) rfl ?_
    refine go_smpq PM41 (L' := [some (.inr (.inr (some 14))), some (.inl 2), some (.inl p2)]) (st' := [.inl 2, .inl 2]) (w' := (SH, dt)) rfl rfl (s_gfc rfl rfl rfl (hI.2 14 1 rfl)) ?_
    refine go_retq PM41 (k := 1) (r := none) (w1 := (SH, dt)) rfl ?_
    exact ⟨rfl, ⟨rfl, trivial⟩⟩
theorem sp_X2_set_14_3 (L : Nat) (xs : Nat → Int32) (sio : Option Nat) (d : Nat) (dt : Nat → Nat → Int) (hI : InvC dt)  (p2 : Int) (h_p2 : (-2147483648) ≤ p2 ∧ p2 ≤ 2147483647)  : GO (am_XX L xs sio) (d) 41 0 [some (.inr (.inr (some 14))), some (.inl 3), some (.inl p2)] [] (SH, dt) (fun r w2 => w2 = (SH, dt) ∧ ((r = none ∧ True))) := by
  have r1 : 0 ≤ dt 14 3 ∧ dt 14 3 ≤ 40 := InvC_get hI 14 3 rfl rfl
  refine go_ifq PM41 (k := 2) (p1 := 34) (p2 := 7) (L' := [some (.inr (.inr (some 14))), some (.inl 3), some (.inl p2)]) (st' := []) (w' := (SH, dt)) rfl (z_le (a := dt 14 3) (by first | exact bnd r1 (by decide) (by decide) | exact ⟨by omega, by omega⟩)) (fun c2 => ?_) (fun c2 => ?_)
  · skip
    refine go_retq PM41 (k := 0) (r := none) (w1 := (SH, dt)) rfl ?_
    exact ⟨rfl, ⟨rfl, trivial⟩⟩
  · skip
    refine go_toq PM41 (k := 2) (pc' := 9) (L' := [some (.inr (.inr (some 14))), some (.inl 3), some (.inl p2)]) (st' := [.inr (.inr (some 14)), .inl 3]) (w' := (SH, dt)) rfl ?_
    refine go_smpq PM41 (L' := [some (.inr (.inr (some 14))), some (.inl 3), some (.inl p2)]) (st' := [.inl 2, .inl 3]) (w' := (SH, dt)) rfl rfl (s_gfc rfl rfl rfl (hI.2 14 1 rfl)) ?_
    refine go_retq PM41 (k := 1) (r := none) (w1 := (SH, dt)) rfl ?_
    exact ⟨rfl, ⟨rfl, trivial⟩⟩
theorem sp_X2_set_14_4 (L : Nat) (xs : Nat → Int32) (sio : Option Nat) (d : Nat) (dt : Nat → Nat → Int) (hI : InvC dt)  (p2 : Int) (h_p2 : (-2147483648) ≤ p2 ∧ p2 ≤ 2147483647)  : GO (am_XX L xs sio) (d) 41 0 [some (.inr (.inr (some 14))), some (.inl 4), some (.inl p2)] [] (SH, dt) (fun r w2 => w2 = (SH, dt) ∧ ((r = none ∧ True))) := by
  have r1 : 0 ≤ dt 14 3 ∧ dt 14 3 ≤ 40 := InvC_get hI 14 3 rfl rfl
  refine go_ifq PM41 (k := 2) (p1 := 34) (p2 := 7) (L' := [some (.inr (.inr (some 14))), some (.inl 4), some (.inl p2)]) (st' := []) (w' := (SH, dt)) rfl (z_le (a := dt 14 3) (by first | exact bnd r1 (by decide) (by decide) | exact ⟨by omega, by omega⟩)) (fun c2 => ?_) (fun c2 => ?_)
  · skip
    refine go_retq PM41 (k := 0) (r := none) (w1 := (SH, dt)) rfl ?_
    exact ⟨rfl, ⟨rfl, trivial⟩⟩
  · skip
    refine go_toq PM41 (k := 2) (pc' := 9) (L' := [some (.inr (.inr (some 14))), some (.inl 4), some (.inl p2)]) (st' := [.inr (.inr (some 14)), .inl 4]) (w' := (SH, dt)) rfl ?_
    refine go_smpq PM41 (L' := [some (.inr (.inr (some 14))), some (.inl 4), some (.inl p2)]) (st' := [.inl 2, .inl 4]) (w' := (SH, dt)) rfl rfl (s_gfc rfl rfl rfl (hI.2 14 1 rfl)) ?_
    refine go_retq PM41 (k := 1) (r := none) (w1 := (SH, dt)) rfl ?_
    exact ⟨rfl, ⟨rfl, trivial⟩⟩
theorem sp_X2_set_14_5 (L : Nat) (xs : Nat → Int32) (sio : Option Nat) (d : Nat) (dt : Nat → Nat → Int) (hI : InvC dt)  (p2 : Int) (h_p2 : (-2147483648) ≤ p2 ∧ p2 ≤ 2147483647)  : GO (am_XX L xs sio) (d) 41 0 [some (.inr (.inr (some 14))), some (.inl 5), some (.inl p2)] [] (SH, dt) (fun r w2 => w2 = (SH, dt) ∧ ((r = none ∧ True))) := by
  have r1 : 0 ≤ dt 14 3 ∧ dt 14 3 ≤ 40 := InvC_get hI 14 3 rfl rfl
  refine go_ifq PM41 (k := 2) (p1 := 34) (p2 := 7) (L' := [some (.inr (.inr (some 14))), some (.inl 5), some (.inl p2)]) (st' := []) (w' := (SH, dt)) rfl (z_le (a := dt 14 3) (by first | exact bnd r1 (by decide) (by decide) | exact ⟨by omega, by omega⟩)) (fun c2 => ?_) (fun c2 => ?_)
  · skip
    refine go_retq PM41 (k := 0) (r := none) (w1 := (SH, dt)) rfl ?_
    exact ⟨rfl, ⟨rfl, trivial⟩⟩
  · skip
    refine go_toq PM41 (k := 2) (pc' := 9) (L' := [some (.inr (.inr (some 14))), some (.inl 5), some (.inl p2)]) (st' := [.inr (.inr (some 14)), .inl 5]) (w' := (SH, dt)) rfl ?_
    refine go_smpq PM41 (L' := [some (.inr (.inr (some 14))), some (.inl 5), some (.inl p2)]) (st' := [.inl 2, .inl 5]) (w' := (SH, dt)) rfl rfl (s_gfc rfl rfl rfl (hI.2 14 1 rfl)) ?_
    refine go_retq PM41 (k := 1) (r := none) (w1 := (SH, dt)) rfl ?_
    exact ⟨rfl, ⟨rfl, trivial⟩⟩
theorem sp_X2_set_16_0 (L : Nat) (xs : Nat → Int32) (sio : Option Nat) (d : Nat) (dt : Nat → Nat → Int) (hI : InvC dt)  (p2 : Int) (h_p2 : (-2147483648) ≤ p2 ∧ p2 ≤ 2147483647) (h_p0 : 0 < dt 16 3) : GO (am_XX L xs sio) (d) 41 0 [some (.inr (.inr (some 16))), some (.inl 0), some (.inl p2)] [] (SH, dt) (fun r w2 => ∃ dt2 : Nat → Nat → Int, w2 = (SH, dt2) ∧ InvC dt2 ∧ Fr [17] dt dt2 ∧ ((r = none ∧ (∀ j : Nat, ¬ (j : Int) = ((dt 16 3) - 1) * 2 + 0 → dt2 17 j = dt 17 j) ∧ (dt2 17 ((((dt 16 3) - 1) * 2) + 0).toNat = p2)))) := by
  have hF : Fr [17] dt dt := Fr_refl
  have r1 : 0 ≤ dt 16 3 ∧ dt 16 3 ≤ 20 := InvC_get hI 16 3 rfl rfl
  refine go_ifq PM41 (k := 2) (p1 := 34) (p2 := 7) (L' := [some (.inr (.inr (some 16))), some (.inl 0), some (.inl p2)]) (st' := []) (w' := (SH, dt)) rfl (z_le (a := dt 16 3) (by first | exact bnd r1 (by decide) (by decide) | exact ⟨by omega, by omega⟩)) (fun c2 => ?_) (fun c2 => ?_)
  · skip
    refine go_retq PM41 (k := 0) (r := none) (w1 := (SH, dt)) rfl ?_
    exact ⟨dt, rfl, hI, hF, ⟨rfl, ⟨by intro j hj; first | exact u2_ne (by omega) | (exfalso; omega), by first | exact u2_eq | (exfalso; omega)⟩⟩⟩
  · skip
    refine go_toq PM41 (k := 2) (pc' := 9) (L' := [some (.inr (.inr (some 16))), some (.inl 0), some (.inl p2)]) (st' := [.inr (.inr (some 16)), .inl 0]) (w' := (SH, dt)) rfl ?_
    refine go_smpq PM41 (L' := [some (.inr (.inr (some 16))), some (.inl 0), some (.inl p2)]) (st' := [.inl 2, .inl 0]) (w' := (SH, dt)) rfl rfl (s_gfc rfl rfl rfl (hI.2 16 1 rfl)) ?_
    refine go_toq PM41 (k := 8) (pc' := 26) (L' := [some (.inr (.inr (some 16))), some (.inl 0), some (.inl p2)]) (st' := [.inr (.inr (some 16)), .inl ((dt 16 3) - 1), .inr (.inr (some 17))]) (w' := (SH, dt)) rfl ?_
    refine go_smpq PM41 (L' := [some (.inr (.inr (some 16))), some (.inl 0), some (.inl p2)]) (st' := [.inl 2, .inl ((dt 16 3) - 1), .inr (.inr (some 17))]) (w' := (SH, dt)) rfl rfl (s_gfc rfl rfl rfl (hI.2 16 1 rfl)) ?_
    refine go_toq PM41 (k := 4) (pc' := 33) (L' := [some (.inr (.inr (some 16))), some (.inl 0), some (.inl p2)]) (st' := [.inl p2, .inl ((((dt 16 3) - 1) * 2) + 0), .inr (.inr (some 17))]) (w' := (SH, dt)) rfl ?_
    have hI3 : InvC (u2 dt 17 (((((dt 16 3) - 1) * 2) + 0).toNat) p2) := InvC_u2 hI (lo := -2147483648) (hi := 2147483647) rfl rfl rfl (by first | exact bnd1 h_p2 (by decide) | omega) (by first | exact bnd2 h_p2 (by decide) | omega)
    have hF4 : Fr [17] dt (u2 dt 17 (((((dt 16 3) - 1) * 2) + 0).toNat) p2) := Fr_u2 hF (by decide)
    refine go_smpq PM41 (L' := [some (.inr (.inr (some 16))), some (.inl 0), some (.inl p2)]) (st' := []) (w' := (SH, (u2 dt 17 (((((dt 16 3) - 1) * 2) + 0).toNat) p2))) rfl rfl (s_iast (n := 40) rfl ⟨by omega, by omega⟩ (by first | exact bnd h_p2 (by decide) (by decide) | exact ⟨by omega, by omega⟩)) ?_
    refine go_retq PM41 (k := 0) (r := none) (w1 := (SH, (u2 dt 17 (((((dt 16 3) - 1) * 2) + 0).toNat) p2))) rfl ?_
    exact ⟨(u2 dt 17 (((((dt 16 3) - 1) * 2) + 0).toNat) p2), rfl, hI3, hF4, ⟨rfl, ⟨by intro j hj; first | exact u2_ne (by omega) | (exfalso; omega), by first | exact u2_eq | (exfalso; omega)⟩⟩⟩
theorem sp_X2_set_16_1 (L : Nat) (xs : Nat → Int32) (sio : Option Nat) (d : Nat) (dt : Nat → Nat → Int) (hI : InvC dt)  (p2 : Int) (h_p2 : (-2147483648) ≤ p2 ∧ p2 ≤ 2147483647) (h_p0 : 0 < dt 16 3) : GO (am_XX L xs sio) (d) 41 0 [some (.inr (.inr (some 16))), some (.inl 1), some (.inl p2)] [] (SH, dt) (fun r w2 => ∃ dt2 : Nat → Nat → Int, w2 = (SH, dt2) ∧ InvC dt2 ∧ Fr [17] dt dt2 ∧ ((r = none ∧ (∀ j : Nat, ¬ (j : Int) = ((dt 16 3) - 1) * 2 + 1 → dt2 17 j = dt 17 j) ∧ (dt2 17 ((((dt 16 3) - 1) * 2) + 1).toNat = p2)))) := by
  have hF : Fr [17] dt dt := Fr_refl
  have r1 : 0 ≤ dt 16 3 ∧ dt 16 3 ≤ 20 := InvC_get hI 16 3 rfl rfl
  refine go_ifq PM41 (k := 2) (p1 := 34) (p2 := 7) (L' := [some (.inr (.inr (some 16))), some (.inl 1), some (.inl p2)]) (st' := []) (w' := (SH, dt)) rfl (z_le (a := dt 16 3) (by first | exact bnd r1 (by decide) (by decide) | exact ⟨by omega, by omega⟩)) (fun c2 => ?_) (fun c2 => ?_)
  · skip
    refine go_retq PM41 (k := 0) (r := none) (w1 := (SH, dt)) rfl ?_
    exact ⟨dt, rfl, hI, hF, ⟨rfl, ⟨by intro j hj; first | exact u2_ne (by omega) | (exfalso; omega), by first | exact u2_eq | (exfalso; omega)⟩⟩⟩
  · skip
    refine go_toq PM41 (k := 2) (pc' := 9) (L' := [some (.inr (.inr (some 16))), some (.inl 1), some (.inl p2)]) (st' := [.inr (.inr (some 16)), .inl 1]) (w' := (SH, dt)) rfl ?_
    refine go_smpq PM41 (L' := [some (.inr (.inr (some 16))), some (.inl 1), some (.inl p2)]) (st' := [.inl 2, .inl 1]) (w' := (SH, dt)) rfl rfl (s_gfc rfl rfl rfl (hI.2 16 1 rfl)) ?_
    refine go_toq PM41 (k := 8) (pc' := 26) (L' := [some (.inr (.inr (some 16))), some (.inl 1), some (.inl p2)]) (st' := [.inr (.inr (some 16)), .inl ((dt 16 3) - 1), .inr (.inr (some 17))]) (w' := (SH, dt)) rfl ?_
    refine go_smpq PM41 (L' := [some (.inr (.inr (some 16))), some (.inl 1), some (.inl p2)]) (st' := [.inl 2, .inl ((dt 16 3) - 1), .inr (.inr (some 17))]) (w' := (SH, dt)) rfl rfl (s_gfc rfl rfl rfl (hI.2 16 1 rfl)) ?_
    refine go_toq PM41 (k := 4) (pc' := 33) (L' := [some (.inr (.inr (some 16))), some (.inl 1), some (.inl p2)]) (st' := [.inl p2, .inl ((((dt 16 3) - 1) * 2) + 1), .inr (.inr (some 17))]) (w' := (SH, dt)) rfl ?_
    have hI3 : InvC (u2 dt 17 (((((dt 16 3) - 1) * 2) + 1).toNat) p2) := InvC_u2 hI (lo := -2147483648) (hi := 2147483647) rfl rfl rfl (by first | exact bnd1 h_p2 (by decide) | omega) (by first | exact bnd2 h_p2 (by decide) | omega)
    have hF4 : Fr [17] dt (u2 dt 17 (((((dt 16 3) - 1) * 2) + 1).toNat) p2) := Fr_u2 hF (by decide)
    refine go_smpq PM41 (L' := [some (.inr (.inr (some 16))), some (.inl 1), some (.inl p2)]) (st' := []) (w' := (SH, (u2 dt 17 (((((dt 16 3) - 1) * 2) + 1).toNat) p2))) rfl rfl (s_iast (n := 40) rfl ⟨by omega, by omega⟩ (by first | exact bnd h_p2 (by decide) (by decide) | exact ⟨by omega, by omega⟩)) ?_
    refine go_retq PM41 (k := 0) (r := none) (w1 := (SH, (u2 dt 17 (((((dt 16 3) - 1) * 2) + 1).toNat) p2))) rfl ?_
    exact ⟨(u2 dt 17 (((((dt 16 3) - 1) * 2) + 1).toNat) p2), rfl, hI3, hF4, ⟨rfl, ⟨by intro j hj; first | exact u2_ne (by omega) | (exfalso; omega), by first | exact u2_eq | (exfalso; omega)⟩⟩⟩
theorem sp_X2_set_16_2 (L : Nat) (xs : Nat → Int32) (sio : Option Nat) (d : Nat) (dt : Nat → Nat → Int) (hI : InvC dt)  (p2 : Int) (h_p2 : (-2147483648) ≤ p2 ∧ p2 ≤ 2147483647)  : GO (am_XX L xs sio) (d) 41 0 [some (.inr (.inr (some 16))), some (.inl 2), some (.inl p2)] [] (SH, dt) (fun r w2 => w2 = (SH, dt) ∧ ((r = none ∧ True))) := by
  have r1 : 0 ≤ dt 16 3 ∧ dt 16 3 ≤ 20 := InvC_get hI 16 3 rfl rfl
  refine go_ifq PM41 (k := 2) (p1 := 34) (p2 := 7) (L' := [some (.inr (.inr (some 16))), some (.inl 2), some (.inl p2)]) (st' := []) (w' := (SH, dt)) rfl (z_le (a := dt 16 3) (by first | exact bnd r1 (by decide) (by decide) | exact ⟨by omega, by omega⟩)) (fun c2 => ?_) (fun c2 => ?_)
  · skip
    refine go_retq PM41 (k := 0) (r := none) (w1 := (SH, dt)) rfl ?_
    exact ⟨rfl, ⟨rfl, trivial⟩⟩
  · skip
    refine go_toq PM41 (k := 2) (pc' := 9) (L' := [some (.inr (.inr (some 16))), some (.inl 2), some (.inl p2)]) (st' := [.inr (.inr (some 16)), .inl 2]) (w' := (SH, dt)) rfl ?_
    refine go_smpq PM41 (L' := [some (.inr (.inr (some 16))), some (.inl 2), some (.inl p2)]) (st' := [.inl 2, .inl 2]) (w' := (SH, dt)) rfl rfl (s_gfc rfl rfl rfl (hI.2 16 1 rfl)) ?_
    refine go_retq PM41 (k := 1) (r := none) (w1 := (SH, dt)) rfl ?_
    exact ⟨rfl, ⟨rfl, trivial⟩⟩
theorem sp_X2_set_16_3 (L : Nat) (xs : Nat → Int32) (sio : Option Nat) (d : Nat) (dt : Nat → Nat → Int) (hI : InvC dt)  (p2 : Int) (h_p2 : (-2147483648) ≤ p2 ∧ p2 ≤ 2147483647)  : GO (am_XX L xs sio) (d) 41 0 [some (.inr (.inr (some 16))), some (.inl 3), some (.inl p2)] [] (SH, dt) (fun r w2 => w2 = (SH, dt) ∧ ((r = none ∧ True))) := by
  have r1 : 0 ≤ dt 16 3 ∧ dt 16 3 ≤ 20 := InvC_get hI 16 3 rfl rfl
  refine go_ifq PM41 (k := 2) (p1 := 34) (p2 := 7) (L' := [some (.inr (.inr (some 16))), some (.inl 3), some (.inl p2)]) (st' := []) (w' := (SH, dt)) rfl (z_le (a := dt 16 3) (by first | exact bnd r1 (by decide) (by decide) | exact ⟨by omega, by omega⟩)) (fun c2 => ?_) (fun c2 => ?_)
  · skip
    refine go_retq PM41 (k := 0) (r := none) (w1 := (SH, dt)) rfl ?_
    exact ⟨rfl, ⟨rfl, trivial⟩⟩
  · skip
    refine go_toq PM41 (k := 2) (pc' := 9) (L' := [some (.inr (.inr (some 16))), some (.inl 3), some (.inl p2)]) (st' := [.inr (.inr (some 16)), .inl 3]) (w' := (SH, dt)) rfl ?_
    refine go_smpq PM41 (L' := [some (.inr (.inr (some 16))), some (.inl 3), some (.inl p2)]) (st' := [.inl 2, .inl 3]) (w' := (SH, dt)) rfl rfl (s_gfc rfl rfl rfl (hI.2 16 1 rfl)) ?_
    refine go_retq PM41 (k := 1) (r := none) (w1 := (SH, dt)) rfl ?_
    exact ⟨rfl, ⟨rfl, trivial⟩⟩
theorem sp_X2_set_16_4 (L : Nat) (xs : Nat → Int32) (sio : Option Nat) (d : Nat) (dt : Nat → Nat → Int) (hI : InvC dt)  (p2 : Int) (h_p2 : (-2147483648) ≤ p2 ∧ p2 ≤ 2147483647)  : GO (am_XX L xs sio) (d) 41 0 [some (.inr (.inr (some 16))), some (.inl 4), some (.inl p2)] [] (SH, dt) (fun r w2 => w2 = (SH, dt) ∧ ((r = none ∧ True))) := by
  have r1 : 0 ≤ dt 16 3 ∧ dt 16 3 ≤ 20 := InvC_get hI 16 3 rfl rfl
  refine go_ifq PM41 (k := 2) (p1 := 34) (p2 := 7) (L' := [some (.inr (.inr (some 16))), some (.inl 4), some (.inl p2)]) (st' := []) (w' := (SH, dt)) rfl (z_le (a := dt 16 3) (by first | exact bnd r1 (by decide) (by decide) | exact ⟨by omega, by omega⟩)) (fun c2 => ?_) (fun c2 => ?_)
  · skip
    refine go_retq PM41 (k := 0) (r := none) (w1 := (SH, dt)) rfl ?_
    exact ⟨rfl, ⟨rfl, trivial⟩⟩
  · skip
    refine go_toq PM41 (k := 2) (pc' := 9) (L' := [some (.inr (.inr (some 16))), some (.inl 4), some (.inl p2)]) (st' := [.inr (.inr (some 16)), .inl 4]) (w' := (SH, dt)) rfl ?_
    refine go_smpq PM41 (L' := [some (.inr (.inr (some 16))), some (.inl 4), some (.inl p2)]) (st' := [.inl 2, .inl 4]) (w' := (SH, dt)) rfl rfl (s_gfc rfl rfl rfl (hI.2 16 1 rfl)) ?_
    refine go_retq PM41 (k := 1) (r := none) (w1 := (SH, dt)) rfl ?_
    exact ⟨rfl, ⟨rfl, trivial⟩⟩
theorem sp_X2_set_16_5 (L : Nat) (xs : Nat → Int32) (sio : Option Nat) (d : Nat) (dt : Nat → Nat → Int) (hI : InvC dt)  (p2 : Int) (h_p2 : (-2147483648) ≤ p2 ∧ p2 ≤ 2147483647)  : GO (am_XX L xs sio) (d) 41 0 [some (.inr (.inr (some 16))), some (.inl 5), some (.inl p2)] [] (SH, dt) (fun r w2 => w2 = (SH, dt) ∧ ((r = none ∧ True))) := by
  have r1 : 0 ≤ dt 16 3 ∧ dt 16 3 ≤ 20 := InvC_get hI 16 3 rfl rfl
  refine go_ifq PM41 (k := 2) (p1 := 34) (p2 := 7) (L' := [some (.inr (.inr (some 16))), some (.inl 5), some (.inl p2)]) (st' := []) (w' := (SH, dt)) rfl (z_le (a := dt 16 3) (by first | exact bnd r1 (by decide) (by decide) | exact ⟨by omega, by omega⟩)) (fun c2 => ?_) (fun c2 => ?_)
  · skip
    refine go_retq PM41 (k := 0) (r := none) (w1 := (SH, dt)) rfl ?_
    exact ⟨rfl, ⟨rfl, trivial⟩⟩
  · skip
    refine go_toq PM41 (k := 2) (pc' := 9) (L' := [some (.inr (.inr (some 16))), some (.inl 5), some (.inl p2)]) (st' := [.inr (.inr (some 16)), .inl 5]) (w' := (SH, dt)) rfl ?_
    refine go_smpq PM41 (L' := [some (.inr (.inr (some 16))), some (.inl 5), some (.inl p2)]) (st' := [.inl 2, .inl 5]) (w' := (SH, dt)) rfl rfl (s_gfc rfl rfl rfl (hI.2 16 1 rfl)) ?_
    refine go_retq PM41 (k := 1) (r := none) (w1 := (SH, dt)) rfl ?_
    exact ⟨rfl, ⟨rfl, trivial⟩⟩
theorem sp_X2_add_14f (L : Nat) (xs : Nat → Int32) (sio : Option Nat) (d : Nat) (dt : Nat → Nat → Int) (hI : InvC dt)  (p1 : Int) (h_p1 : (-2147483648) ≤ p1 ∧ p1 ≤ 2147483647) (p2 : Int) (h_p2 : (-2147483648) ≤ p2 ∧ p2 ≤ 2147483647) (p3 : Int) (h_p3 : (-2147483648) ≤ p3 ∧ p3 ≤ 2147483647) (p4 : Int) (h_p4 : (-2147483648) ≤ p4 ∧ p4 ≤ 2147483647) (p5 : Int) (h_p5 : (-2147483648) ≤ p5 ∧ p5 ≤ 2147483647) (p6 : Int) (h_p6 : (-2147483648) ≤ p6 ∧ p6 ≤ 2147483647)  : GO (am_XX L xs sio) (d + 1) 40 0 [some (.inr (.inr (some 14))), some (.inl p1), some (.inl p2), some (.inl p3), some (.inl p4), some (.inl p5), some (.inl p6)] [] (SH, dt) (fun r w2 => ∃ dt2 : Nat → Nat → Int, w2 = (SH, dt2) ∧ InvC dt2 ∧ Fr [14, 15] dt dt2 ∧ ((r = some (.inl (-1)) ∧ (40 ≤ dt 14 3) ∧ (dt2 14 3 = dt 14 3) ∧ (∀ j : Nat, dt2 15 j = dt 15 j)) ∨ (∃ v : Int, r = some (.inl v) ∧ (0 ≤ v ∧ v ≤ 40) ∧ (v = dt 14 3) ∧ (dt 14 3 < 40) ∧ (dt2 14 3 = dt 14 3 + 1) ∧ (∀ j : Nat, (j : Int) < 2 * dt 14 3 → dt2 15 j = dt 15 j) ∧ (dt2 15 (((dt 14 3) * 2) + 0).toNat = p1) ∧ (dt2 15 (((dt 14 3) * 2) + 1).toNat = p2)))) := by
  have hF : Fr [14, 15] dt dt := Fr_refl
  have r1 : 0 ≤ dt 14 3 ∧ dt 14 3 ≤ 40 := InvC_get hI 14 3 rfl rfl
  refine go_toq PM40 (k := 1) (pc' := 1) (L' := [some (.inr (.inr (some 14))), some (.inl p1), some (.inl p2), some (.inl p3), some (.inl p4), some (.inl p5), some (.inl p6)]) (st' := [.inr (.inr (some 14))]) (w' := (SH, dt)) rfl ?_
  refine go_callq PM40 PM38 (Q' := _) rfl rfl rfl rfl (sp_X2_isFull_14 L xs sio (d + 0) dt hI   ) ?_
  rintro _ _ ⟨rfl, h2⟩
  refine ⟨rfl, ?_⟩
  rcases h2 with ⟨rfl, h2⟩ | ⟨rfl, h2⟩
  · skip
    refine go_retq PM40 (k := 2) (r := some (.inl (-1))) (w1 := (SH, dt)) rfl ?_
    first | exact ⟨dt, rfl, hI, hF, (Or.inl ⟨rfl, ⟨by first | exact True.intro | with_reducible assumption | rfl | omega | trivial, by first | exact True.intro | with_reducible assumption | rfl | omega | trivial, by exact fun _ => rfl⟩⟩)⟩ | exact ⟨dt, rfl, hI, hF, (Or.inr ⟨_, rfl, ⟨by decide, by decide⟩, ⟨by first | exact True.intro | with_reducible assumption | rfl | omega | trivial, by first | exact True.intro | with_reducible assumption | rfl | omega | trivial, by first | exact True.intro | with_reducible assumption | rfl | omega | trivial, by assumption, by assumption, by assumption⟩⟩)⟩
  · skip
    refine go_toq PM40 (k := 6) (pc' := 16) (L' := [some (.inr (.inr (some 14))), some (.inl p1), some (.inl p2), some (.inl p3), some (.inl p4), some (.inl p5), some (.inl p6)]) (st' := [.inl ((dt 14 3) + 1), .inr (.inr (some 14))]) (w' := (SH, dt)) rfl ?_
    have hI3 : InvC (u2 dt 14 3 ((dt 14 3) + 1)) := InvC_u2 hI (lo := 0) (hi := 40) rfl rfl rfl (by omega) (by omega)
    have hF4 : Fr [14, 15] dt (u2 dt 14 3 ((dt 14 3) + 1)) := Fr_u2 hF (by decide)
    have w5 : (u2 dt 14 3 ((dt 14 3) + 1)) 14 3 = (dt 14 3) + 1 := rfl
    refine go_smpq PM40 (L' := [some (.inr (.inr (some 14))), some (.inl p1), some (.inl p2), some (.inl p3), some (.inl p4), some (.inl p5), some (.inl p6)]) (st' := []) (w' := (SH, (u2 dt 14 3 ((dt 14 3) + 1)))) rfl rfl (s_pf rfl rfl rfl rfl (by first | exact bndp r1 (by decide) (by decide) | exact ⟨by omega, by omega⟩)) ?_
    refine go_toq PM40 (k := 3) (pc' := 22) (L' := [some (.inr (.inr (some 14))), some (.inl p1), some (.inl p2), some (.inl p3), some (.inl p4), some (.inl p5), some (.inl p6)]) (st' := [.inl p1, .inl 0, .inr (.inr (some 14))]) (w' := (SH, (u2 dt 14 3 ((dt 14 3) + 1)))) rfl ?_
    refine go_callq PM40 PM41 (Q' := _) rfl rfl rfl rfl (sp_X2_set_14_0 L xs sio (d + 0) (u2 dt 14 3 ((dt 14 3) + 1)) hI3  p1 (by first | exact h_p1 | exact bnd h_p1 (by decide) (by decide) | exact ⟨by omega, by omega⟩) (by first | exact True.intro | with_reducible assumption | rfl | omega | trivial)) ?_
    rintro _ _ ⟨dt7, rfl, hI8, hF9, h6⟩
    refine ⟨rfl, ?_⟩
    have hF10 : Fr [14, 15] dt dt7 := Fr_tr hF4 hF9 (by decide)
    have w11 : dt7 14 3 = (u2 dt 14 3 ((dt 14 3) + 1)) 14 3 := hF9 14 (by decide) 3
    rcases h6 with ⟨rfl, h6⟩
    obtain ⟨h6_0, h6_1⟩ := h6
    have B12 : ∀ j : Nat, (j : Int) < 2 * dt 14 3 → dt7 15 j = dt 15 j := fun j hj => (h6_0 j (by omega)).trans rfl
    have Y13 : dt7 15 (((dt 14 3) * 2) + 0).toNat = p1 := by rw [show (((dt 14 3) * 2) + 0).toNat = (((((u2 dt 14 3 ((dt 14 3) + 1)) 14 3) - 1) * 2) + 0).toNat by first | with_reducible assumption | omega]; exact h6_1
    refine go_toq PM40 (k := 3) (pc' := 28) (L' := [some (.inr (.inr (some 14))), some (.inl p1), some (.inl p2), some (.inl p3), some (.inl p4), some (.inl p5), some (.inl p6)]) (st' := [.inl p2, .inl 1, .inr (.inr (some 14))]) (w' := (SH, dt7)) rfl ?_
    refine go_callq PM40 PM41 (Q' := _) rfl rfl rfl rfl (sp_X2_set_14_1 L xs sio (d + 0) dt7 hI8  p2 (by first | exact h_p2 | exact bnd h_p2 (by decide) (by decide) | exact ⟨by omega, by omega⟩) (by first | exact True.intro | with_reducible assumption | rfl | omega | trivial)) ?_
    rintro _ _ ⟨dt15, rfl, hI16, hF17, h14⟩
    refine ⟨rfl, ?_⟩
    have hF18 : Fr [14, 15] dt dt15 := Fr_tr hF10 hF17 (by decide)
    have w19 : dt15 14 3 = dt7 14 3 := hF17 14 (by decide) 3
    rcases h14 with ⟨rfl, h14⟩
    obtain ⟨h14_0, h14_1⟩ := h14
    have B20 : ∀ j : Nat, (j : Int) < 2 * dt 14 3 → dt15 15 j = dt 15 j := fun j hj => (h14_0 j (by omega)).trans (B12 j hj)
    have Y21 : dt15 15 (((dt 14 3) * 2) + 0).toNat = p1 := (h14_0 _ (by omega)).trans Y13
    have Y22 : dt15 15 (((dt 14 3) * 2) + 1).toNat = p2 := by rw [show (((dt 14 3) * 2) + 1).toNat = ((((dt7 14 3) - 1) * 2) + 1).toNat by first | with_reducible assumption | omega]; exact h14_1
    refine go_toq PM40 (k := 3) (pc' := 34) (L' := [some (.inr (.inr (some 14))), some (.inl p1), some (.inl p2), some (.inl p3), some (.inl p4), some (.inl p5), some (.inl p6)]) (st' := [.inl p3, .inl 2, .inr (.inr (some 14))]) (w' := (SH, dt15)) rfl ?_
    refine go_callq PM40 PM41 (Q' := _) rfl rfl rfl rfl (sp_X2_set_14_2 L xs sio (d + 0) dt15 hI16  p3 (by first | exact h_p3 | exact bnd h_p3 (by decide) (by decide) | exact ⟨by omega, by omega⟩) ) ?_
    rintro _ _ ⟨rfl, h23⟩
    refine ⟨rfl, ?_⟩
    rcases h23 with ⟨rfl, h23⟩
    refine go_toq PM40 (k := 3) (pc' := 41) (L' := [some (.inr (.inr (some 14))), some (.inl p1), some (.inl p2), some (.inl p3), some (.inl p4), some (.inl p5), some (.inl p6)]) (st' := [.inl p4, .inl 3, .inr (.inr (some 14))]) (w' := (SH, dt15)) rfl ?_
    refine go_callq PM40 PM41 (Q' := _) rfl rfl rfl rfl (sp_X2_set_14_3 L xs sio (d + 0) dt15 hI16  p4 (by first | exact h_p4 | exact bnd h_p4 (by decide) (by decide) | exact ⟨by omega, by omega⟩) ) ?_
    rintro _ _ ⟨rfl, h24⟩
    refine ⟨rfl, ?_⟩
    rcases h24 with ⟨rfl, h24⟩
    refine go_toq PM40 (k := 3) (pc' := 48) (L' := [some (.inr (.inr (some 14))), some (.inl p1), some (.inl p2), some (.inl p3), some (.inl p4), some (.inl p5), some (.inl p6)]) (st' := [.inl p5, .inl 4, .inr (.inr (some 14))]) (w' := (SH, dt15)) rfl ?_
    refine go_callq PM40 PM41 (Q' := _) rfl rfl rfl rfl (sp_X2_set_14_4 L xs sio (d + 0) dt15 hI16  p5 (by first | exact h_p5 | exact bnd h_p5 (by decide) (by decide) | exact ⟨by omega, by omega⟩) ) ?_
    rintro _ _ ⟨rfl, h25⟩
    refine ⟨rfl, ?_⟩
    rcases h25 with ⟨rfl, h25⟩
    refine go_toq PM40 (k := 3) (pc' := 55) (L' := [some (.inr (.inr (some 14))), some (.inl p1), some (.inl p2), some (.inl p3), some (.inl p4), some (.inl p5), some (.inl p6)]) (st' := [.inl p6, .inl 5, .inr (.inr (some 14))]) (w' := (SH, dt15)) rfl ?_
    refine go_callq PM40 PM41 (Q' := _) rfl rfl rfl rfl (sp_X2_set_14_5 L xs sio (d + 0) dt15 hI16  p6 (by first | exact h_p6 | exact bnd h_p6 (by decide) (by decide) | exact ⟨by omega, by omega⟩) ) ?_
    rintro _ _ ⟨rfl, h26⟩
    refine ⟨rfl, ?_⟩
    rcases h26 with ⟨rfl, h26⟩
    have r27 : 0 ≤ dt15 14 3 ∧ dt15 14 3 ≤ 40 := InvC_get hI16 14 3 rfl rfl
    refine go_retq PM40 (k := 4) (r := some (.inl ((dt15 14 3) - 1))) (w1 := (SH, dt15)) rfl ?_
    exact ⟨dt15, rfl, hI16, hF18, (Or.inr ⟨_, rfl, ⟨by omega, by omega⟩, ⟨by first | exact True.intro | with_reducible assumption | rfl | omega | trivial, by first | exact True.intro | with_reducible assumption | rfl | omega | trivial, by first | exact True.intro | with_reducible assumption | rfl | omega | trivial, by assumption, by assumption, by assumption⟩⟩)⟩
theorem sp_X2_add_16f (L : Nat) (xs : Nat → Int32) (sio : Option Nat) (d : Nat) (dt : Nat → Nat → Int) (hI : InvC dt)  (p1 : Int) (h_p1 : (-2147483648) ≤ p1 ∧ p1 ≤ 2147483647) (p2 : Int) (h_p2 : (-2147483648) ≤ p2 ∧ p2 ≤ 2147483647) (p3 : Int) (h_p3 : (-2147483648) ≤ p3 ∧ p3 ≤ 2147483647) (p4 : Int) (h_p4 : (-2147483648) ≤ p4 ∧ p4 ≤ 2147483647) (p5 : Int) (h_p5 : (-2147483648) ≤ p5 ∧ p5 ≤ 2147483647) (p6 : Int) (h_p6 : (-2147483648) ≤ p6 ∧ p6 ≤ 2147483647)  : GO (am_XX L xs sio) (d + 1) 40 0 [some (.inr (.inr (some 16))), some (.inl p1), some (.inl p2), some (.inl p3), some (.inl p4), some (.inl p5), some (.inl p6)] [] (SH, dt) (fun r w2 => ∃ dt2 : Nat → Nat → Int, w2 = (SH, dt2) ∧ InvC dt2 ∧ Fr [16, 17] dt dt2 ∧ ((r = some (.inl (-1)) ∧ (20 ≤ dt 16 3) ∧ (dt2 16 3 = dt 16 3) ∧ (∀ j : Nat, dt2 17 j = dt 17 j)) ∨ (∃ v : Int, r = some (.inl v) ∧ (0 ≤ v ∧ v ≤ 20) ∧ (v = dt 16 3) ∧ (dt 16 3 < 20) ∧ (dt2 16 3 = dt 16 3 + 1) ∧ (∀ j : Nat, (j : Int) < 2 * dt 16 3 → dt2 17 j = dt 17 j) ∧ (dt2 17 (((dt 16 3) * 2) + 0).toNat = p1) ∧ (dt2 17 (((dt 16 3) * 2) + 1).toNat = p2)))) := by
  have hF : Fr [16, 17] dt dt := Fr_refl
  have r1 : 0 ≤ dt 16 3 ∧ dt 16 3 ≤ 20 := InvC_get hI 16 3 rfl rfl
  refine go_toq PM40 (k := 1) (pc' := 1) (L' := [some (.inr (.inr (some 16))), some (.inl p1), some (.inl p2), some (.inl p3), some (.inl p4), some (.inl p5), some (.inl p6)]) (st' := [.inr (.inr (some 16))]) (w' := (SH, dt)) rfl ?_
  refine go_callq PM40 PM38 (Q' := _) rfl rfl rfl rfl (sp_X2_isFull_16 L xs sio (d + 0) dt hI   ) ?_
  rintro _ _ ⟨rfl, h2⟩
  refine ⟨rfl, ?_⟩
  rcases h2 with ⟨rfl, h2⟩ | ⟨rfl, h2⟩
  · skip
    refine go_retq PM40 (k := 2) (r := some (.inl (-1))) (w1 := (SH, dt)) rfl ?_
    first | exact ⟨dt, rfl, hI, hF, (Or.inl ⟨rfl, ⟨by first | exact True.intro | with_reducible assumption | rfl | omega | trivial, by first | exact True.intro | with_reducible assumption | rfl | omega | trivial, by exact fun _ => rfl⟩⟩)⟩ | exact ⟨dt, rfl, hI, hF, (Or.inr ⟨_, rfl, ⟨by decide, by decide⟩, ⟨by first | exact True.intro | with_reducible assumption | rfl | omega | trivial, by first | exact True.intro | with_reducible assumption | rfl | omega | trivial, by first | exact True.intro | with_reducible assumption | rfl | omega | trivial, by assumption, by assumption, by assumption⟩⟩)⟩
  · skip
    refine go_toq PM40 (k := 6) (pc' := 16) (L' := [some (.inr (.inr (some 16))), some (.inl p1), some (.inl p2), some (.inl p3), some (.inl p4), some (.inl p5), some (.inl p6)]) (st' := [.inl ((dt 16 3) + 1), .inr (.inr (some 16))]) (w' := (SH, dt)) rfl ?_
    have hI3 : InvC (u2 dt 16 3 ((dt 16 3) + 1)) := InvC_u2 hI (lo := 0) (hi := 20) rfl rfl rfl (by omega) (by omega)
    have hF4 : Fr [16, 17] dt (u2 dt 16 3 ((dt 16 3) + 1)) := Fr_u2 hF (by decide)
    have w5 : (u2 dt 16 3 ((dt 16 3) + 1)) 16 3 = (dt 16 3) + 1 := rfl
    refine go_smpq PM40 (L' := [some (.inr (.inr (some 16))), some (.inl p1), some (.inl p2), some (.inl p3), some (.inl p4), some (.inl p5), some (.inl p6)]) (st' := []) (w' := (SH, (u2 dt 16 3 ((dt 16 3) + 1)))) rfl rfl (s_pf rfl rfl rfl rfl (by first | exact bndp r1 (by decide) (by decide) | exact ⟨by omega, by omega⟩)) ?_
    refine go_toq PM40 (k := 3) (pc' := 22) (L' := [some (.inr (.inr (some 16))), some (.inl p1), some (.inl p2), some (.inl p3), some (.inl p4), some (.inl p5), some (.inl p6)]) (st' := [.inl p1, .inl 0, .inr (.inr (some 16))]) (w' := (SH, (u2 dt 16 3 ((dt 16 3) + 1)))) rfl ?_
    refine go_callq PM40 PM41 (Q' := _) rfl rfl rfl rfl (sp_X2_set_16_0 L xs sio (d + 0) (u2 dt 16 3 ((dt 16 3) + 1)) hI3  p1 (by first | exact h_p1 | exact bnd h_p1 (by decide) (by decide) | exact ⟨by omega, by omega⟩) (by first | exact True.intro | with_reducible assumption | rfl | omega | trivial)) ?_
    rintro _ _ ⟨dt7, rfl, hI8, hF9, h6⟩
    refine ⟨rfl, ?_⟩
    have hF10 : Fr [16, 17] dt dt7 := Fr_tr hF4 hF9 (by decide)
    have w11 : dt7 16 3 = (u2 dt 16 3 ((dt 16 3) + 1)) 16 3 := hF9 16 (by decide) 3
    rcases h6 with ⟨rfl, h6⟩
    obtain ⟨h6_0, h6_1⟩ := h6
    have B12 : ∀ j : Nat, (j : Int) < 2 * dt 16 3 → dt7 17 j = dt 17 j := fun j hj => (h6_0 j (by omega)).trans rfl
    have Y13 : dt7 17 (((dt 16 3) * 2) + 0).toNat = p1 := by rw [show (((dt 16 3) * 2) + 0).toNat = (((((u2 dt 16 3 ((dt 16 3) + 1)) 16 3) - 1) * 2) + 0).toNat by first | with_reducible assumption | omega]; exact h6_1
    refine go_toq PM40 (k := 3) (pc' := 28) (L' := [some (.inr (.inr (some 16))), some (.inl p1), some (.inl p2), some (.inl p3), some (.inl p4), some (.inl p5), some (.inl p6)]) (st' := [.inl p2, .inl 1, .inr (.inr (some 16))]) (w' := (SH, dt7)) rfl ?_
    refine go_callq PM40 PM41 (Q' := _) rfl rfl rfl rfl (sp_X2_set_16_1 L xs sio (d + 0) dt7 hI8  p2 (by first | exact h_p2 | exact bnd h_p2 (by decide) (by decide) | exact ⟨by omega, by omega⟩) (by first | exact True.intro | with_reducible assumption | rfl | omega | trivial)) ?_
    rintro _ _ ⟨dt15, rfl, hI16, hF17, h14⟩
    refine ⟨rfl, ?_⟩
    have hF18 : Fr [16, 17] dt dt15 := Fr_tr hF10 hF17 (by decide)
    have w19 : dt15 16 3 = dt7 16 3 := hF17 16 (by decide) 3
    rcases h14 with ⟨rfl, h14⟩
    obtain ⟨h14_0, h14_1⟩ := h14
    have B20 : ∀ j : Nat, (j : Int) < 2 * dt 16 3 → dt15 17 j = dt 17 j := fun j hj => (h14_0 j (by omega)).trans (B12 j hj)
    have Y21 : dt15 17 (((dt 16 3) * 2) + 0).toNat = p1 := (h14_0 _ (by omega)).trans Y13
    have Y22 : dt15 17 (((dt 16 3) * 2) + 1).toNat = p2 := by rw [show (((dt 16 3) * 2) + 1).toNat = ((((dt7 16 3) - 1) * 2) + 1).toNat by first | with_reducible assumption | omega]; exact h14_1
    refine go_toq PM40 (k := 3) (pc' := 34) (L' := [some (.inr (.inr (some 16))), some (.inl p1), some (.inl p2), some (.inl p3), some (.inl p4), some (.inl p5), some (.inl p6)]) (st' := [.inl p3, .inl 2, .inr (.inr (some 16))]) (w' := (SH, dt15)) rfl ?_
    refine go_callq PM40 PM41 (Q' := _) rfl rfl rfl rfl (sp_X2_set_16_2 L xs sio (d + 0) dt15 hI16  p3 (by first | exact h_p3 | exact bnd h_p3 (by decide) (by decide) | exact ⟨by omega, by omega⟩) ) ?_
    rintro _ _ ⟨rfl, h23⟩
    refine ⟨rfl, ?_⟩
    rcases h23 with ⟨rfl, h23⟩
    refine go_toq PM40 (k := 3) (pc' := 41) (L' := [some (.inr (.inr (some 16))), some (.inl p1), some (.inl p2), some (.inl p3), some (.inl p4), some (.inl p5), some (.inl p6)]) (st' := [.inl p4, .inl 3, .inr (.inr (some 16))]) (w' := (SH, dt15)) rfl ?_
    refine go_callq PM40 PM41 (Q' := _) rfl rfl rfl rfl (sp_X2_set_16_3 L xs sio (d + 0) dt15 hI16  p4 (by first | exact h_p4 | exact bnd h_p4 (by decide) (by decide) | exact ⟨by omega, by omega⟩) ) ?_
    rintro _ _ ⟨rfl, h24⟩
    refine ⟨rfl, ?_⟩
    rcases h24 with ⟨rfl, h24⟩
    refine go_toq PM40 (k := 3) (pc' := 48) (L' := [some (.inr (.inr (some 16))), some (.inl p1), some (.inl p2), some (.inl p3), some (.inl p4), some (.inl p5), some (.inl p6)]) (st' := [.inl p5, .inl 4, .inr (.inr (some 16))]) (w' := (SH, dt15)) rfl ?_
    refine go_callq PM40 PM41 (Q' := _) rfl rfl rfl rfl (sp_X2_set_16_4 L xs sio (d + 0) dt15 hI16  p5 (by first | exact h_p5 | exact bnd h_p5 (by decide) (by decide) | exact ⟨by omega, by omega⟩) ) ?_
    rintro _ _ ⟨rfl, h25⟩
    refine ⟨rfl, ?_⟩
    rcases h25 with ⟨rfl, h25⟩
    refine go_toq PM40 (k := 3) (pc' := 55) (L' := [some (.inr (.inr (some 16))), some (.inl p1), some (.inl p2), some (.inl p3), some (.inl p4), some (.inl p5), some (.inl p6)]) (st' := [.inl p6, .inl 5, .inr (.inr (some 16))]) (w' := (SH, dt15)) rfl ?_
    refine go_callq PM40 PM41 (Q' := _) rfl rfl rfl rfl (sp_X2_set_16_5 L xs sio (d + 0) dt15 hI16  p6 (by first | exact h_p6 | exact bnd h_p6 (by decide) (by decide) | exact ⟨by omega, by omega⟩) ) ?_
    rintro _ _ ⟨rfl, h26⟩
    refine ⟨rfl, ?_⟩
    rcases h26 with ⟨rfl, h26⟩
    have r27 : 0 ≤ dt15 16 3 ∧ dt15 16 3 ≤ 20 := InvC_get hI16 16 3 rfl rfl
    refine go_retq PM40 (k := 4) (r := some (.inl ((dt15 16 3) - 1))) (w1 := (SH, dt15)) rfl ?_
    exact ⟨dt15, rfl, hI16, hF18, (Or.inr ⟨_, rfl, ⟨by omega, by omega⟩, ⟨by first | exact True.intro | with_reducible assumption | rfl | omega | trivial, by first | exact True.intro | with_reducible assumption | rfl | omega | trivial, by first | exact True.intro | with_reducible assumption | rfl | omega | trivial, by assumption, by assumption, by assumption⟩⟩)⟩
theorem sp_X5_eyes_f (L : Nat) (xs : Nat → Int32) (sio : Option Nat) (d : Nat) (dt : Nat → Nat → Int) (hI : InvC dt)  (p1 : Int) (h_p1 : (-2147483648) ≤ p1 ∧ p1 ≤ 2147483647) (p2 : Int) (h_p2 : (-2147483648) ≤ p2 ∧ p2 ≤ 2147483647)  : GO (am_XX L xs sio) (d + 2) 90 0 [some (.inr (.inr (some 0))), some (.inl p1), some (.inl p2)] [] (SH, dt) (fun r w2 => ∃ dt2 : Nat → Nat → Int, w2 = (SH, dt2) ∧ InvC dt2 ∧ Fr [14, 15] dt dt2 ∧ ((r = some (.inl (-1)) ∧ (¬ ((0 ≤ p1 ∧ p1 ≤ 9999) ∧ (0 ≤ p2 ∧ p2 ≤ 9999) ∧ dt 14 3 < 40)) ∧ (dt2 14 3 = dt 14 3) ∧ (∀ j : Nat, dt2 15 j = dt 15 j)) ∨ (∃ v : Int, r = some (.inl v) ∧ ((-2147483648) ≤ v ∧ v ≤ 2147483647) ∧ (v = dt 14 3 + 1) ∧ ((0 ≤ p1 ∧ p1 ≤ 9999) ∧ (0 ≤ p2 ∧ p2 ≤ 9999) ∧ dt 14 3 < 40) ∧ (dt2 14 3 = dt 14 3 + 1) ∧ (∀ j : Nat, (j : Int) < 2 * dt 14 3 → dt2 15 j = dt 15 j) ∧ (dt2 15 (((dt 14 3) * 2) + 0).toNat = p1) ∧ (dt2 15 (((dt 14 3) * 2) + 1).toNat = p2)))) := by
  have hF : Fr [14, 15] dt dt := Fr_refl
  have r1 : 0 ≤ dt 14 3 ∧ dt 14 3 ≤ 40 := InvC_get hI 14 3 rfl rfl
  refine go_toq PM90 (k := 3) (pc' := 5) (L' := [some (.inr (.inr (some 0))), some (.inl p1), some (.inl p2)]) (st' := [.inl 9999, .inl 0, .inl p1]) (w' := (SH, dt)) rfl ?_
  refine go_callq PM90 PM100 (Q' := _) rfl rfl rfl rfl (sp_X5_within L xs sio (d + 1) dt hI  p1 (by first | exact h_p1 | exact bnd h_p1 (by decide) (by decide) | exact ⟨by omega, by omega⟩) 0 ⟨by decide, by decide⟩ 9999 ⟨by decide, by decide⟩ ) ?_
  rintro _ _ ⟨rfl, h2⟩
  refine ⟨rfl, ?_⟩
  rcases h2 with ⟨rfl, h2⟩ | ⟨rfl, h2⟩
  · skip
    refine go_toq PM90 (k := 4) (pc' := 16) (L' := [some (.inr (.inr (some 0))), some (.inl p1), some (.inl p2)]) (st' := [.inl 9999, .inl 0, .inl p2]) (w' := (SH, dt)) rfl ?_
    refine go_callq PM90 PM100 (Q' := _) rfl rfl rfl rfl (sp_X5_within L xs sio (d + 1) dt hI  p2 (by first | exact h_p2 | exact bnd h_p2 (by decide) (by decide) | exact ⟨by omega, by omega⟩) 0 ⟨by decide, by decide⟩ 9999 ⟨by decide, by decide⟩ ) ?_
    rintro _ _ ⟨rfl, h3⟩
    refine ⟨rfl, ?_⟩
    rcases h3 with ⟨rfl, h3⟩ | ⟨rfl, h3⟩
    · skip
      refine go_toq PM90 (k := 10) (pc' := 37) (L' := [some (.inr (.inr (some 0))), some (.inl p1), some (.inl p2)]) (st' := [.inl 0, .inl 0, .inl 0, .inl 0, .inl p2, .inl p1, .inr (.inr (some 14))]) (w' := (SH, dt)) rfl ?_
      refine go_callq PM90 PM40 (Q' := _) rfl rfl rfl rfl (sp_X2_add_14f L xs sio (d + 0) dt hI  p1 (by first | exact h_p1 | exact bnd h_p1 (by decide) (by decide) | exact ⟨by omega, by omega⟩) p2 (by first | exact h_p2 | exact bnd h_p2 (by decide) (by decide) | exact ⟨by omega, by omega⟩) 0 ⟨by decide, by decide⟩ 0 ⟨by decide, by decide⟩ 0 ⟨by decide, by decide⟩ 0 ⟨by decide, by decide⟩ ) ?_
      rintro _ _ ⟨dt5, rfl, hI6, hF7, h4⟩
      refine ⟨rfl, ?_⟩
      have hF8 : Fr [14, 15] dt dt5 := Fr_tr hF hF7 (by decide)
      rcases h4 with ⟨rfl, h4⟩ | ⟨v_h4, rfl, h4r, h4⟩
      · skip
        obtain ⟨h4_0, h4_1, h4_2⟩ := h4
        refine go_retq PM90 (k := 3) (r := some (.inl (-1))) (w1 := (SH, dt5)) rfl ?_
        first | exact ⟨dt5, rfl, hI6, hF8, (Or.inl ⟨rfl, ⟨by first | exact True.intro | with_reducible assumption | rfl | omega | trivial, by first | exact True.intro | with_reducible assumption | rfl | omega | trivial, by first | exact fun _ => rfl | assumption⟩⟩)⟩ | exact ⟨dt5, rfl, hI6, hF8, (Or.inr ⟨_, rfl, ⟨by decide, by decide⟩, ⟨by first | exact True.intro | with_reducible assumption | rfl | omega | trivial, by first | exact True.intro | with_reducible assumption | rfl | omega | trivial, by first | exact True.intro | with_reducible assumption | rfl | omega | trivial, by assumption, by assumption, by assumption⟩⟩)⟩
      · skip
        obtain ⟨h4_0, h4_1, h4_2, h4_3, h4_4, h4_5⟩ := h4
        refine go_ifq PM90 (k := 1) (p1 := 46) (p2 := 44) (L' := [some (.inr (.inr (some 0))), some (.inl p1), some (.inl p2)]) (st' := []) (w' := (SH, dt5)) rfl (c_ne (a := v_h4) (b := (-1)) (by first | exact bnd h4r (by decide) (by decide) | exact ⟨by omega, by omega⟩) ⟨by decide, by decide⟩) (fun c9 => ?_) (fun c9 => ?_)
        · skip
          replace c9 := hid c9
          have r10 : 0 ≤ dt5 14 3 ∧ dt5 14 3 ≤ 40 := InvC_get hI6 14 3 rfl rfl
          refine go_retq PM90 (k := 4) (r := some (.inl (dt5 14 3))) (w1 := (SH, dt5)) rfl ?_
          exact ⟨dt5, rfl, hI6, hF8, (Or.inr ⟨_, rfl, (by first | exact bnd r10 (by decide) (by decide) | exact ⟨by (first | omega | (have z0_ := unhid c9; omega)), by (first | omega | (have z0_ := unhid c9; omega))⟩), ⟨by first | exact True.intro | with_reducible assumption | exact unhid (by with_reducible assumption) | rfl | (first | omega | (have z0_ := unhid c9; omega)) | trivial, by first | exact True.intro | with_reducible assumption | exact unhid (by with_reducible assumption) | rfl | (first | omega | (have z0_ := unhid c9; omega)) | trivial, by first | exact True.intro | with_reducible assumption | exact unhid (by with_reducible assumption) | rfl | (first | omega | (have z0_ := unhid c9; omega)) | trivial, by assumption, by assumption, by assumption⟩⟩)⟩
        · exfalso; omega
    · skip
      refine go_retq PM90 (k := 2) (r := some (.inl (-1))) (w1 := (SH, dt)) rfl ?_
      first | exact ⟨dt, rfl, hI, hF, (Or.inl ⟨rfl, ⟨by first | exact True.intro | with_reducible assumption | rfl | omega | trivial, by first | exact True.intro | with_reducible assumption | rfl | omega | trivial, by first | exact fun _ => rfl | assumption⟩⟩)⟩ | exact ⟨dt, rfl, hI, hF, (Or.inr ⟨_, rfl, ⟨by decide, by decide⟩, ⟨by first | exact True.intro | with_reducible assumption | rfl | omega | trivial, by first | exact True.intro | with_reducible assumption | rfl | omega | trivial, by first | exact True.intro | with_reducible assumption | rfl | omega | trivial, by assumption, by assumption, by assumption⟩⟩)⟩
  · skip
    refine go_retq PM90 (k := 2) (r := some (.inl (-1))) (w1 := (SH, dt)) rfl ?_
    first | exact ⟨dt, rfl, hI, hF, (Or.inl ⟨rfl, ⟨by first | exact True.intro | with_reducible assumption | rfl | omega | trivial, by first | exact True.intro | with_reducible assumption | rfl | omega | trivial, by first | exact fun _ => rfl | assumption⟩⟩)⟩ | exact ⟨dt, rfl, hI, hF, (Or.inr ⟨_, rfl, ⟨by decide, by decide⟩, ⟨by first | exact True.intro | with_reducible assumption | rfl | omega | trivial, by first | exact True.intro | with_reducible assumption | rfl | omega | trivial, by first | exact True.intro | with_reducible assumption | rfl | omega | trivial, by assumption, by assumption, by assumption⟩⟩)⟩
theorem sp_X5_house_f (L : Nat) (xs : Nat → Int32) (sio : Option Nat) (d : Nat) (dt : Nat → Nat → Int) (hI : InvC dt)  (p1 : Int) (h_p1 : (-2147483648) ≤ p1 ∧ p1 ≤ 2147483647) (p2 : Int) (h_p2 : (-2147483648) ≤ p2 ∧ p2 ≤ 2147483647)  : GO (am_XX L xs sio) (d + 2) 92 0 [some (.inr (.inr (some 0))), some (.inl p1), some (.inl p2)] [] (SH, dt) (fun r w2 => ∃ dt2 : Nat → Nat → Int, w2 = (SH, dt2) ∧ InvC dt2 ∧ Fr [16, 17] dt dt2 ∧ ((r = some (.inl (-1)) ∧ (¬ ((1 ≤ p1 ∧ p1 ≤ 999) ∧ (0 ≤ p2 ∧ p2 ≤ p1) ∧ dt 16 3 < 20)) ∧ (dt2 16 3 = dt 16 3) ∧ (∀ j : Nat, dt2 17 j = dt 17 j)) ∨ (∃ v : Int, r = some (.inl v) ∧ ((-2147483648) ≤ v ∧ v ≤ 2147483647) ∧ (v = dt 16 3) ∧ ((1 ≤ p1 ∧ p1 ≤ 999) ∧ (0 ≤ p2 ∧ p2 ≤ p1) ∧ dt 16 3 < 20) ∧ (dt2 16 3 = dt 16 3 + 1) ∧ (∀ j : Nat, (j : Int) < 2 * dt 16 3 → dt2 17 j = dt 17 j) ∧ (dt2 17 (((dt 16 3) * 2) + 0).toNat = p1) ∧ (dt2 17 (((dt 16 3) * 2) + 1).toNat = p2)))) := by
  have hF : Fr [16, 17] dt dt := Fr_refl
  have r1 : 0 ≤ dt 16 3 ∧ dt 16 3 ≤ 20 := InvC_get hI 16 3 rfl rfl
  refine go_toq PM92 (k := 3) (pc' := 5) (L' := [some (.inr (.inr (some 0))), some (.inl p1), some (.inl p2)]) (st' := [.inl 999, .inl 1, .inl p1]) (w' := (SH, dt)) rfl ?_
  refine go_callq PM92 PM100 (Q' := _) rfl rfl rfl rfl (sp_X5_within L xs sio (d + 1) dt hI  p1 (by first | exact h_p1 | exact bnd h_p1 (by decide) (by decide) | exact ⟨by omega, by omega⟩) 1 ⟨by decide, by decide⟩ 999 ⟨by decide, by decide⟩ ) ?_
  rintro _ _ ⟨rfl, h2⟩
  refine ⟨rfl, ?_⟩
  rcases h2 with ⟨rfl, h2⟩ | ⟨rfl, h2⟩
  · skip
    refine go_toq PM92 (k := 4) (pc' := 14) (L' := [some (.inr (.inr (some 0))), some (.inl p1), some (.inl p2)]) (st' := [.inl p1, .inl 0, .inl p2]) (w' := (SH, dt)) rfl ?_
    refine go_callq PM92 PM100 (Q' := _) rfl rfl rfl rfl (sp_X5_within L xs sio (d + 1) dt hI  p2 (by first | exact h_p2 | exact bnd h_p2 (by decide) (by decide) | exact ⟨by omega, by omega⟩) 0 ⟨by decide, by decide⟩ p1 (by first | exact h_p1 | exact bnd h_p1 (by decide) (by decide) | exact ⟨by omega, by omega⟩) ) ?_
    rintro _ _ ⟨rfl, h3⟩
    refine ⟨rfl, ?_⟩
    rcases h3 with ⟨rfl, h3⟩ | ⟨rfl, h3⟩
    · skip
      refine go_toq PM92 (k := 10) (pc' := 35) (L' := [some (.inr (.inr (some 0))), some (.inl p1), some (.inl p2)]) (st' := [.inl 0, .inl 0, .inl 0, .inl 0, .inl p2, .inl p1, .inr (.inr (some 16))]) (w' := (SH, dt)) rfl ?_
      refine go_callq PM92 PM40 (Q' := _) rfl rfl rfl rfl (sp_X2_add_16f L xs sio (d + 0) dt hI  p1 (by first | exact h_p1 | exact bnd h_p1 (by decide) (by decide) | exact ⟨by omega, by omega⟩) p2 (by first | exact h_p2 | exact bnd h_p2 (by decide) (by decide) | exact ⟨by omega, by omega⟩) 0 ⟨by decide, by decide⟩ 0 ⟨by decide, by decide⟩ 0 ⟨by decide, by decide⟩ 0 ⟨by decide, by decide⟩ ) ?_
      rintro _ _ ⟨dt5, rfl, hI6, hF7, h4⟩
      refine ⟨rfl, ?_⟩
      have hF8 : Fr [16, 17] dt dt5 := Fr_tr hF hF7 (by decide)
      rcases h4 with ⟨rfl, h4⟩ | ⟨v_h4, rfl, h4r, h4⟩
      · skip
        obtain ⟨h4_0, h4_1, h4_2⟩ := h4
        refine go_retq PM92 (k := 0) (r := some (.inl (-1))) (w1 := (SH, dt5)) rfl ?_
        first | exact ⟨dt5, rfl, hI6, hF8, (Or.inl ⟨rfl, ⟨by first | exact True.intro | with_reducible assumption | rfl | omega | trivial, by first | exact True.intro | with_reducible assumption | rfl | omega | trivial, by first | exact fun _ => rfl | assumption⟩⟩)⟩ | exact ⟨dt5, rfl, hI6, hF8, (Or.inr ⟨_, rfl, ⟨by decide, by decide⟩, ⟨by first | exact True.intro | with_reducible assumption | rfl | omega | trivial, by first | exact True.intro | with_reducible assumption | rfl | omega | trivial, by first | exact True.intro | with_reducible assumption | rfl | omega | trivial, by assumption, by assumption, by assumption⟩⟩)⟩
      · skip
        obtain ⟨h4_0, h4_1, h4_2, h4_3, h4_4, h4_5⟩ := h4
        refine go_retq PM92 (k := 0) (r := some (.inl v_h4)) (w1 := (SH, dt5)) rfl ?_
        exact ⟨dt5, rfl, hI6, hF8, (Or.inr ⟨_, rfl, (by first | exact bnd h4r (by decide) (by decide) | exact ⟨by omega, by omega⟩), ⟨by first | exact True.intro | with_reducible assumption | rfl | omega | trivial, by first | exact True.intro | with_reducible assumption | rfl | omega | trivial, by first | exact True.intro | with_reducible assumption | rfl | omega | trivial, by assumption, by assumption, by assumption⟩⟩)⟩
    · skip
      refine go_retq PM92 (k := 2) (r := some (.inl (-1))) (w1 := (SH, dt)) rfl ?_
      first | exact ⟨dt, rfl, hI, hF, (Or.inl ⟨rfl, ⟨by first | exact True.intro | with_reducible assumption | rfl | omega | trivial, by first | exact True.intro | with_reducible assumption | rfl | omega | trivial, by first | exact fun _ => rfl | assumption⟩⟩)⟩ | exact ⟨dt, rfl, hI, hF, (Or.inr ⟨_, rfl, ⟨by decide, by decide⟩, ⟨by first | exact True.intro | with_reducible assumption | rfl | omega | trivial, by first | exact True.intro | with_reducible assumption | rfl | omega | trivial, by first | exact True.intro | with_reducible assumption | rfl | omega | trivial, by assumption, by assumption, by assumption⟩⟩)⟩
  · skip
    refine go_retq PM92 (k := 2) (r := some (.inl (-1))) (w1 := (SH, dt)) rfl ?_
    first | exact ⟨dt, rfl, hI, hF, (Or.inl ⟨rfl, ⟨by first | exact True.intro | with_reducible assumption | rfl | omega | trivial, by first | exact True.intro | with_reducible assumption | rfl | omega | trivial, by first | exact fun _ => rfl | assumption⟩⟩)⟩ | exact ⟨dt, rfl, hI, hF, (Or.inr ⟨_, rfl, ⟨by decide, by decide⟩, ⟨by first | exact True.intro | with_reducible assumption | rfl | omega | trivial, by first | exact True.intro | with_reducible assumption | rfl | omega | trivial, by first | exact True.intro | with_reducible assumption | rfl | omega | trivial, by assumption, by assumption, by assumption⟩⟩)⟩
theorem sp_X2_copyFrom_14f (L : Nat) (xs : Nat → Int32) (sio : Option Nat) (d : Nat) (dt : Nat → Nat → Int) (hI : InvC dt)    : GO (am_XX L xs sio) (d + 1) 42 0 [some (.inr (.inr (some 14))), some (.inr (.inr (some 31)))] [] (SH, dt) (fun r w2 => ∃ dt2 : Nat → Nat → Int, w2 = (SH, dt2) ∧ InvC dt2 ∧ Fr [14, 15] dt dt2 ∧ ((r = none ∧ (dt2 14 3 = dt 31 3) ∧ (∀ j : Nat, j < 80 → dt2 15 j = dt 32 j)))) := by
  have hF : Fr [14, 15] dt dt := Fr_refl
  have r1 : 0 ≤ dt 31 3 ∧ dt 31 3 ≤ 40 := InvC_get hI 31 3 rfl rfl
  refine go_toq PM42 (k := 4) (pc' := 6) (L' := [some (.inr (.inr (some 14))), some (.inr (.inr (some 31)))]) (st' := [.inr (.inr (some 14)), .inl (dt 31 3), .inr (.inr (some 14))]) (w' := (SH, dt)) rfl ?_
  refine go_smpq PM42 (L' := [some (.inr (.inr (some 14))), some (.inr (.inr (some 31)))]) (st' := [.inl 40, .inl (dt 31 3), .inr (.inr (some 14))]) (w' := (SH, dt)) rfl rfl (s_gfc rfl rfl rfl (hI.2 14 0 rfl)) ?_
  refine go_callq PM42 PM266 (Q' := _) rfl rfl rfl rfl (sp_J9_min_7cf53 L xs sio (d + 0) dt hI  (dt 31 3) (by first | exact bnd r1 (by decide) (by decide) | exact ⟨by omega, by omega⟩) 40 ⟨by decide, by decide⟩ ) ?_
  rintro _ _ ⟨rfl, h2⟩
  refine ⟨rfl, ?_⟩
  rcases h2 with ⟨v_h2, rfl, h2r, h2⟩
  have hI3 : InvC (u2 dt 14 3 v_h2) := InvC_u2 hI (lo := 0) (hi := 40) rfl rfl rfl (by first | exact bnd1 h2r (by decide) | omega) (by first | exact bnd2 h2r (by decide) | omega)
  have hF4 : Fr [14, 15] dt (u2 dt 14 3 v_h2) := Fr_u2 hF (by decide)
  have w5 : (u2 dt 14 3 v_h2) 14 3 = v_h2 := rfl
  refine go_smpq PM42 (L' := [some (.inr (.inr (some 14))), some (.inr (.inr (some 31)))]) (st' := []) (w' := (SH, (u2 dt 14 3 v_h2))) rfl rfl (s_pf rfl rfl rfl rfl ⟨by omega, by omega⟩) ?_
  refine go_toq PM42 (k := 12) (pc' := 35) (L' := [some (.inr (.inr (some 14))), some (.inr (.inr (some 31)))]) (st' := [.inl 80, .inl 80, .inl 0, .inr (.inr (some 15)), .inl 0, .inr (.inr (some 32))]) (w' := (SH, (u2 dt 14 3 v_h2))) rfl ?_
  refine go_callq PM42 PM266 (Q' := _) rfl rfl rfl rfl (sp_J9_min_7cf53 L xs sio (d + 0) (u2 dt 14 3 v_h2) hI3  80 ⟨by decide, by decide⟩ 80 ⟨by decide, by decide⟩ ) ?_
  rintro _ _ ⟨rfl, h6⟩
  refine ⟨rfl, ?_⟩
  rcases h6 with ⟨v_h6, rfl, h6r, h6⟩
  have hI7 : InvC (am_cp (u2 dt 14 3 v_h2) 32 15 0 0 (v_h6).toNat) := InvC_cp hI3 (fun _ _ => rfl) (fun _ _ => rfl) (fun _ => rfl)
  have hF8 : Fr [14, 15] dt (am_cp (u2 dt 14 3 v_h2) 32 15 0 0 (v_h6).toNat) := Fr_cp hF4 (by decide)
  have w9 : (am_cp (u2 dt 14 3 v_h2) 32 15 0 0 (v_h6).toNat) 14 3 = (u2 dt 14 3 v_h2) 14 3 := rfl
  refine go_cpyq PM42 (L' := [some (.inr (.inr (some 14))), some (.inr (.inr (some 31)))]) (st' := []) (w' := (SH, (am_cp (u2 dt 14 3 v_h2) 32 15 0 0 (v_h6).toNat))) rfl rfl (s_cpy (n0 := 80) (n1 := 80) rfl rfl ⟨⟨by omega, by omega, by omega⟩, by omega, by omega, by decide⟩) ?_
  refine go_retq PM42 (k := 0) (r := none) (w1 := (SH, (am_cp (u2 dt 14 3 v_h2) 32 15 0 0 (v_h6).toNat))) rfl ?_
  exact ⟨(am_cp (u2 dt 14 3 v_h2) 32 15 0 0 (v_h6).toNat), rfl, hI7, hF8, ⟨rfl, ⟨by first | exact True.intro | with_reducible assumption | rfl | omega | trivial, by intro j hj; exact (cp_at (by omega)).trans rfl⟩⟩⟩
theorem sp_X2_copyFrom_16f (L : Nat) (xs : Nat → Int32) (sio : Option Nat) (d : Nat) (dt : Nat → Nat → Int) (hI : InvC dt)    : GO (am_XX L xs sio) (d + 1) 42 0 [some (.inr (.inr (some 16))), some (.inr (.inr (some 33)))] [] (SH, dt) (fun r w2 => ∃ dt2 : Nat → Nat → Int, w2 = (SH, dt2) ∧ InvC dt2 ∧ Fr [16, 17] dt dt2 ∧ ((r = none ∧ (dt2 16 3 = dt 33 3) ∧ (∀ j : Nat, j < 40 → dt2 17 j = dt 34 j)))) := by
  have hF : Fr [16, 17] dt dt := Fr_refl
  have r1 : 0 ≤ dt 33 3 ∧ dt 33 3 ≤ 20 := InvC_get hI 33 3 rfl rfl
  refine go_toq PM42 (k := 4) (pc' := 6) (L' := [some (.inr (.inr (some 16))), some (.inr (.inr (some 33)))]) (st' := [.inr (.inr (some 16)), .inl (dt 33 3), .inr (.inr (some 16))]) (w' := (SH, dt)) rfl ?_
  refine go_smpq PM42 (L' := [some (.inr (.inr (some 16))), some (.inr (.inr (some 33)))]) (st' := [.inl 20, .inl (dt 33 3), .inr (.inr (some 16))]) (w' := (SH, dt)) rfl rfl (s_gfc rfl rfl rfl (hI.2 16 0 rfl)) ?_
  refine go_callq PM42 PM266 (Q' := _) rfl rfl rfl rfl (sp_J9_min_7cf53 L xs sio (d + 0) dt hI  (dt 33 3) (by first | exact bnd r1 (by decide) (by decide) | exact ⟨by omega, by omega⟩) 20 ⟨by decide, by decide⟩ ) ?_
  rintro _ _ ⟨rfl, h2⟩
  refine ⟨rfl, ?_⟩
  rcases h2 with ⟨v_h2, rfl, h2r, h2⟩
  have hI3 : InvC (u2 dt 16 3 v_h2) := InvC_u2 hI (lo := 0) (hi := 20) rfl rfl rfl (by first | exact bnd1 h2r (by decide) | omega) (by first | exact bnd2 h2r (by decide) | omega)
  have hF4 : Fr [16, 17] dt (u2 dt 16 3 v_h2) := Fr_u2 hF (by decide)
  have w5 : (u2 dt 16 3 v_h2) 16 3 = v_h2 := rfl
  refine go_smpq PM42 (L' := [some (.inr (.inr (some 16))), some (.inr (.inr (some 33)))]) (st' := []) (w' := (SH, (u2 dt 16 3 v_h2))) rfl rfl (s_pf rfl rfl rfl rfl ⟨by omega, by omega⟩) ?_
  refine go_toq PM42 (k := 12) (pc' := 35) (L' := [some (.inr (.inr (some 16))), some (.inr (.inr (some 33)))]) (st' := [.inl 40, .inl 40, .inl 0, .inr (.inr (some 17)), .inl 0, .inr (.inr (some 34))]) (w' := (SH, (u2 dt 16 3 v_h2))) rfl ?_
  refine go_callq PM42 PM266 (Q' := _) rfl rfl rfl rfl (sp_J9_min_7cf53 L xs sio (d + 0) (u2 dt 16 3 v_h2) hI3  40 ⟨by decide, by decide⟩ 40 ⟨by decide, by decide⟩ ) ?_
  rintro _ _ ⟨rfl, h6⟩
  refine ⟨rfl, ?_⟩
  rcases h6 with ⟨v_h6, rfl, h6r, h6⟩
  have hI7 : InvC (am_cp (u2 dt 16 3 v_h2) 34 17 0 0 (v_h6).toNat) := InvC_cp hI3 (fun _ _ => rfl) (fun _ _ => rfl) (fun _ => rfl)
  have hF8 : Fr [16, 17] dt (am_cp (u2 dt 16 3 v_h2) 34 17 0 0 (v_h6).toNat) := Fr_cp hF4 (by decide)
  have w9 : (am_cp (u2 dt 16 3 v_h2) 34 17 0 0 (v_h6).toNat) 16 3 = (u2 dt 16 3 v_h2) 16 3 := rfl
  refine go_cpyq PM42 (L' := [some (.inr (.inr (some 16))), some (.inr (.inr (some 33)))]) (st' := []) (w' := (SH, (am_cp (u2 dt 16 3 v_h2) 34 17 0 0 (v_h6).toNat))) rfl rfl (s_cpy (n0 := 40) (n1 := 40) rfl rfl ⟨⟨by omega, by omega, by omega⟩, by omega, by omega, by decide⟩) ?_
  refine go_retq PM42 (k := 0) (r := none) (w1 := (SH, (am_cp (u2 dt 16 3 v_h2) 34 17 0 0 (v_h6).toNat))) rfl ?_
  exact ⟨(am_cp (u2 dt 16 3 v_h2) 34 17 0 0 (v_h6).toNat), rfl, hI7, hF8, ⟨rfl, ⟨by first | exact True.intro | with_reducible assumption | rfl | omega | trivial, by intro j hj; exact (cp_at (by omega)).trans rfl⟩⟩⟩
theorem sp_X2_copyFrom_31f (L : Nat) (xs : Nat → Int32) (sio : Option Nat) (d : Nat) (dt : Nat → Nat → Int) (hI : InvC dt)    : GO (am_XX L xs sio) (d + 1) 42 0 [some (.inr (.inr (some 31))), some (.inr (.inr (some 14)))] [] (SH, dt) (fun r w2 => ∃ dt2 : Nat → Nat → Int, w2 = (SH, dt2) ∧ InvC dt2 ∧ Fr [31, 32] dt dt2 ∧ ((r = none ∧ (dt2 31 3 = dt 14 3) ∧ (∀ j : Nat, j < 80 → dt2 32 j = dt 15 j)))) := by
  have hF : Fr [31, 32] dt dt := Fr_refl
  have r1 : 0 ≤ dt 14 3 ∧ dt 14 3 ≤ 40 := InvC_get hI 14 3 rfl rfl
  refine go_toq PM42 (k := 4) (pc' := 6) (L' := [some (.inr (.inr (some 31))), some (.inr (.inr (some 14)))]) (st' := [.inr (.inr (some 31)), .inl (dt 14 3), .inr (.inr (some 31))]) (w' := (SH, dt)) rfl ?_
  refine go_smpq PM42 (L' := [some (.inr (.inr (some 31))), some (.inr (.inr (some 14)))]) (st' := [.inl 40, .inl (dt 14 3), .inr (.inr (some 31))]) (w' := (SH, dt)) rfl rfl (s_gfc rfl rfl rfl (hI.2 31 0 rfl)) ?_
  refine go_callq PM42 PM266 (Q' := _) rfl rfl rfl rfl (sp_J9_min_7cf53 L xs sio (d + 0) dt hI  (dt 14 3) (by first | exact bnd r1 (by decide) (by decide) | exact ⟨by omega, by omega⟩) 40 ⟨by decide, by decide⟩ ) ?_
  rintro _ _ ⟨rfl, h2⟩
  refine ⟨rfl, ?_⟩
  rcases h2 with ⟨v_h2, rfl, h2r, h2⟩
  have hI3 : InvC (u2 dt 31 3 v_h2) := InvC_u2 hI (lo := 0) (hi := 40) rfl rfl rfl (by first | exact bnd1 h2r (by decide) | omega) (by first | exact bnd2 h2r (by decide) | omega)
  have hF4 : Fr [31, 32] dt (u2 dt 31 3 v_h2) := Fr_u2 hF (by decide)
  have w5 : (u2 dt 31 3 v_h2) 31 3 = v_h2 := rfl
  refine go_smpq PM42 (L' := [some (.inr (.inr (some 31))), some (.inr (.inr (some 14)))]) (st' := []) (w' := (SH, (u2 dt 31 3 v_h2))) rfl rfl (s_pf rfl rfl rfl rfl ⟨by omega, by omega⟩) ?_
  refine go_toq PM42 (k := 12) (pc' := 35) (L' := [some (.inr (.inr (some 31))), some (.inr (.inr (some 14)))]) (st' := [.inl 80, .inl 80, .inl 0, .inr (.inr (some 32)), .inl 0, .inr (.inr (some 15))]) (w' := (SH, (u2 dt 31 3 v_h2))) rfl ?_
  refine go_callq PM42 PM266 (Q' := _) rfl rfl rfl rfl (sp_J9_min_7cf53 L xs sio (d + 0) (u2 dt 31 3 v_h2) hI3  80 ⟨by decide, by decide⟩ 80 ⟨by decide, by decide⟩ ) ?_
  rintro _ _ ⟨rfl, h6⟩
  refine ⟨rfl, ?_⟩
  rcases h6 with ⟨v_h6, rfl, h6r, h6⟩
  have hI7 : InvC (am_cp (u2 dt 31 3 v_h2) 15 32 0 0 (v_h6).toNat) := InvC_cp hI3 (fun _ _ => rfl) (fun _ _ => rfl) (fun _ => rfl)
  have hF8 : Fr [31, 32] dt (am_cp (u2 dt 31 3 v_h2) 15 32 0 0 (v_h6).toNat) := Fr_cp hF4 (by decide)
  have w9 : (am_cp (u2 dt 31 3 v_h2) 15 32 0 0 (v_h6).toNat) 31 3 = (u2 dt 31 3 v_h2) 31 3 := rfl
  refine go_cpyq PM42 (L' := [some (.inr (.inr (some 31))), some (.inr (.inr (some 14)))]) (st' := []) (w' := (SH, (am_cp (u2 dt 31 3 v_h2) 15 32 0 0 (v_h6).toNat))) rfl rfl (s_cpy (n0 := 80) (n1 := 80) rfl rfl ⟨⟨by omega, by omega, by omega⟩, by omega, by omega, by decide⟩) ?_
  refine go_retq PM42 (k := 0) (r := none) (w1 := (SH, (am_cp (u2 dt 31 3 v_h2) 15 32 0 0 (v_h6).toNat))) rfl ?_
  exact ⟨(am_cp (u2 dt 31 3 v_h2) 15 32 0 0 (v_h6).toNat), rfl, hI7, hF8, ⟨rfl, ⟨by first | exact True.intro | with_reducible assumption | rfl | omega | trivial, by intro j hj; exact (cp_at (by omega)).trans rfl⟩⟩⟩
theorem sp_X2_copyFrom_33f (L : Nat) (xs : Nat → Int32) (sio : Option Nat) (d : Nat) (dt : Nat → Nat → Int) (hI : InvC dt)    : GO (am_XX L xs sio) (d + 1) 42 0 [some (.inr (.inr (some 33))), some (.inr (.inr (some 16)))] [] (SH, dt) (fun r w2 => ∃ dt2 : Nat → Nat → Int, w2 = (SH, dt2) ∧ InvC dt2 ∧ Fr [33, 34] dt dt2 ∧ ((r = none ∧ (dt2 33 3 = dt 16 3) ∧ (∀ j : Nat, j < 40 → dt2 34 j = dt 17 j)))) := by
  have hF : Fr [33, 34] dt dt := Fr_refl
  have r1 : 0 ≤ dt 16 3 ∧ dt 16 3 ≤ 20 := InvC_get hI 16 3 rfl rfl
  refine go_toq PM42 (k := 4) (pc' := 6) (L' := [some (.inr (.inr (some 33))), some (.inr (.inr (some 16)))]) (st' := [.inr (.inr (some 33)), .inl (dt 16 3), .inr (.inr (some 33))]) (w' := (SH, dt)) rfl ?_
  refine go_smpq PM42 (L' := [some (.inr (.inr (some 33))), some (.inr (.inr (some 16)))]) (st' := [.inl 20, .inl (dt 16 3), .inr (.inr (some 33))]) (w' := (SH, dt)) rfl rfl (s_gfc rfl rfl rfl (hI.2 33 0 rfl)) ?_
  refine go_callq PM42 PM266 (Q' := _) rfl rfl rfl rfl (sp_J9_min_7cf53 L xs sio (d + 0) dt hI  (dt 16 3) (by first | exact bnd r1 (by decide) (by decide) | exact ⟨by omega, by omega⟩) 20 ⟨by decide, by decide⟩ ) ?_
  rintro _ _ ⟨rfl, h2⟩
  refine ⟨rfl, ?_⟩
  rcases h2 with ⟨v_h2, rfl, h2r, h2⟩
  have hI3 : InvC (u2 dt 33 3 v_h2) := InvC_u2 hI (lo := 0) (hi := 20) rfl rfl rfl (by first | exact bnd1 h2r (by decide) | omega) (by first | exact bnd2 h2r (by decide) | omega)
  have hF4 : Fr [33, 34] dt (u2 dt 33 3 v_h2) := Fr_u2 hF (by decide)
  have w5 : (u2 dt 33 3 v_h2) 33 3 = v_h2 := rfl
  refine go_smpq PM42 (L' := [some (.inr (.inr (some 33))), some (.inr (.inr (some 16)))]) (st' := []) (w' := (SH, (u2 dt 33 3 v_h2))) rfl rfl (s_pf rfl rfl rfl rfl ⟨by omega, by omega⟩) ?_
  refine go_toq PM42 (k := 12) (pc' := 35) (L' := [some (.inr (.inr (some 33))), some (.inr (.inr (some 16)))]) (st' := [.inl 40, .inl 40, .inl 0, .inr (.inr (some 34)), .inl 0, .inr (.inr (some 17))]) (w' := (SH, (u2 dt 33 3 v_h2))) rfl ?_
  refine go_callq PM42 PM266 (Q' := _) rfl rfl rfl rfl (sp_J9_min_7cf53 L xs sio (d + 0) (u2 dt 33 3 v_h2) hI3  40 ⟨by decide, by decide⟩ 40 ⟨by decide, by decide⟩ ) ?_
  rintro _ _ ⟨rfl, h6⟩
  refine ⟨rfl, ?_⟩
  rcases h6 with ⟨v_h6, rfl, h6r, h6⟩
  have hI7 : InvC (am_cp (u2 dt 33 3 v_h2) 17 34 0 0 (v_h6).toNat) := InvC_cp hI3 (fun _ _ => rfl) (fun _ _ => rfl) (fun _ => rfl)
  have hF8 : Fr [33, 34] dt (am_cp (u2 dt 33 3 v_h2) 17 34 0 0 (v_h6).toNat) := Fr_cp hF4 (by decide)
  have w9 : (am_cp (u2 dt 33 3 v_h2) 17 34 0 0 (v_h6).toNat) 33 3 = (u2 dt 33 3 v_h2) 33 3 := rfl
  refine go_cpyq PM42 (L' := [some (.inr (.inr (some 33))), some (.inr (.inr (some 16)))]) (st' := []) (w' := (SH, (am_cp (u2 dt 33 3 v_h2) 17 34 0 0 (v_h6).toNat))) rfl rfl (s_cpy (n0 := 40) (n1 := 40) rfl rfl ⟨⟨by omega, by omega, by omega⟩, by omega, by omega, by decide⟩) ?_
  refine go_retq PM42 (k := 0) (r := none) (w1 := (SH, (am_cp (u2 dt 33 3 v_h2) 17 34 0 0 (v_h6).toNat))) rfl ?_
  exact ⟨(am_cp (u2 dt 33 3 v_h2) 17 34 0 0 (v_h6).toNat), rfl, hI7, hF8, ⟨rfl, ⟨by first | exact True.intro | with_reducible assumption | rfl | omega | trivial, by intro j hj; exact (cp_at (by omega)).trans rfl⟩⟩⟩
theorem sp_X0_copyFrom_1f (L : Nat) (xs : Nat → Int32) (sio : Option Nat) (d : Nat) (dt : Nat → Nat → Int) (hI : InvC dt)    : GO (am_XX L xs sio) (d + 2) 4 0 [some (.inr (.inr (some 1))), some (.inr (.inr (some 18)))] [] (SH, dt) (fun r w2 => ∃ dt2 : Nat → Nat → Int, w2 = (SH, dt2) ∧ InvC dt2 ∧ Fr [1, 2, 3, 4, 5, 6, 7, 8, 9, 10, 11, 12, 13, 14, 15, 16, 17] dt dt2 ∧ ((r = none ∧ (dt2 1 0 = dt 18 0) ∧ (dt2 7 3 = dt 24 3) ∧ (dt2 10 3 = dt 27 3) ∧ (dt2 12 3 = dt 29 3) ∧ (dt2 14 3 = dt 31 3) ∧ (dt2 16 3 = dt 33 3) ∧ (∀ j : Nat, j < 80 → dt2 15 j = dt 32 j) ∧ (∀ j : Nat, j < 40 → dt2 17 j = dt 34 j)))) := by
  have hF : Fr [1, 2, 3, 4, 5, 6, 7, 8, 9, 10, 11, 12, 13, 14, 15, 16, 17] dt dt := Fr_refl
  have r1 : (-2147483648) ≤ dt 18 0 ∧ dt 18 0 ≤ 2147483647 := InvC_get hI 18 0 rfl rfl
  refine go_toq PM4 (k := 3) (pc' := 5) (L' := [some (.inr (.inr (some 1))), some (.inr (.inr (some 18)))]) (st' := [.inl (dt 18 0), .inr (.inr (some 1))]) (w' := (SH, dt)) rfl ?_
  have hI2 : InvC (u2 dt 1 0 (dt 18 0)) := InvC_u2 hI (lo := -2147483648) (hi := 2147483647) rfl rfl rfl (by first | exact bnd1 r1 (by decide) | omega) (by first | exact bnd2 r1 (by decide) | omega)
  have hF3 : Fr [1, 2, 3, 4, 5, 6, 7, 8, 9, 10, 11, 12, 13, 14, 15, 16, 17] dt (u2 dt 1 0 (dt 18 0)) := Fr_u2 hF (by decide)
  have w4 : (u2 dt 1 0 (dt 18 0)) 1 0 = dt 18 0 := rfl
  have w5 : (u2 dt 1 0 (dt 18 0)) 7 3 = dt 7 3 := rfl
  have w6 : (u2 dt 1 0 (dt 18 0)) 10 3 = dt 10 3 := rfl
  have w7 : (u2 dt 1 0 (dt 18 0)) 12 3 = dt 12 3 := rfl
  have w8 : (u2 dt 1 0 (dt 18 0)) 14 3 = dt 14 3 := rfl
  have w9 : (u2 dt 1 0 (dt 18 0)) 16 3 = dt 16 3 := rfl
  have w10 : (u2 dt 1 0 (dt 18 0)) 18 0 = dt 18 0 := rfl
  have w11 : (u2 dt 1 0 (dt 18 0)) 24 3 = dt 24 3 := rfl
  have w12 : (u2 dt 1 0 (dt 18 0)) 27 3 = dt 27 3 := rfl
  have w13 : (u2 dt 1 0 (dt 18 0)) 29 3 = dt 29 3 := rfl
  have w14 : (u2 dt 1 0 (dt 18 0)) 31 3 = dt 31 3 := rfl
  have w15 : (u2 dt 1 0 (dt 18 0)) 33 3 = dt 33 3 := rfl
  refine go_smpq PM4 (L' := [some (.inr (.inr (some 1))), some (.inr (.inr (some 18)))]) (st' := []) (w' := (SH, (u2 dt 1 0 (dt 18 0)))) rfl rfl (s_pf rfl rfl rfl rfl (by first | exact bnd r1 (by decide) (by decide) | exact ⟨by omega, by omega⟩)) ?_
  refine go_toq PM4 (k := 9) (pc' := 23) (L' := [some (.inr (.inr (some 1))), some (.inr (.inr (some 18)))]) (st' := [.inl 192, .inl 0, .inr (.inr (some 2)), .inl 0, .inr (.inr (some 19))]) (w' := (SH, (u2 dt 1 0 (dt 18 0)))) rfl ?_
  have hI16 : InvC (am_cp (u2 dt 1 0 (dt 18 0)) 19 2 0 0 192) := InvC_cp hI2 (fun _ _ => rfl) (fun _ _ => rfl) (fun _ => rfl)
  have hF17 : Fr [1, 2, 3, 4, 5, 6, 7, 8, 9, 10, 11, 12, 13, 14, 15, 16, 17] dt (am_cp (u2 dt 1 0 (dt 18 0)) 19 2 0 0 192) := Fr_cp hF3 (by decide)
  have w18 : (am_cp (u2 dt 1 0 (dt 18 0)) 19 2 0 0 192) 1 0 = (u2 dt 1 0 (dt 18 0)) 1 0 := rfl
  have w19 : (am_cp (u2 dt 1 0 (dt 18 0)) 19 2 0 0 192) 7 3 = (u2 dt 1 0 (dt 18 0)) 7 3 := rfl
  have w20 : (am_cp (u2 dt 1 0 (dt 18 0)) 19 2 0 0 192) 10 3 = (u2 dt 1 0 (dt 18 0)) 10 3 := rfl
  have w21 : (am_cp (u2 dt 1 0 (dt 18 0)) 19 2 0 0 192) 12 3 = (u2 dt 1 0 (dt 18 0)) 12 3 := rfl
  have w22 : (am_cp (u2 dt 1 0 (dt 18 0)) 19 2 0 0 192) 14 3 = (u2 dt 1 0 (dt 18 0)) 14 3 := rfl
  have w23 : (am_cp (u2 dt 1 0 (dt 18 0)) 19 2 0 0 192) 16 3 = (u2 dt 1 0 (dt 18 0)) 16 3 := rfl
  have w24 : (am_cp (u2 dt 1 0 (dt 18 0)) 19 2 0 0 192) 18 0 = (u2 dt 1 0 (dt 18 0)) 18 0 := rfl
  have w25 : (am_cp (u2 dt 1 0 (dt 18 0)) 19 2 0 0 192) 24 3 = (u2 dt 1 0 (dt 18 0)) 24 3 := rfl
  have w26 : (am_cp (u2 dt 1 0 (dt 18 0)) 19 2 0 0 192) 27 3 = (u2 dt 1 0 (dt 18 0)) 27 3 := rfl
  have w27 : (am_cp (u2 dt 1 0 (dt 18 0)) 19 2 0 0 192) 29 3 = (u2 dt 1 0 (dt 18 0)) 29 3 := rfl
  have w28 : (am_cp (u2 dt 1 0 (dt 18 0)) 19 2 0 0 192) 31 3 = (u2 dt 1 0 (dt 18 0)) 31 3 := rfl
  have w29 : (am_cp (u2 dt 1 0 (dt 18 0)) 19 2 0 0 192) 33 3 = (u2 dt 1 0 (dt 18 0)) 33 3 := rfl
  refine go_cpyq PM4 (L' := [some (.inr (.inr (some 1))), some (.inr (.inr (some 18)))]) (st' := []) (w' := (SH, (am_cp (u2 dt 1 0 (dt 18 0)) 19 2 0 0 192))) rfl rfl (s_cpy (n0 := 192) (n1 := 192) rfl rfl ⟨⟨by omega, by omega, by omega⟩, by omega, by omega, by decide⟩) ?_
  refine go_toq PM4 (k := 9) (pc' := 41) (L' := [some (.inr (.inr (some 1))), some (.inr (.inr (some 18)))]) (st' := [.inl 8, .inl 0, .inr (.inr (some 3)), .inl 0, .inr (.inr (some 20))]) (w' := (SH, (am_cp (u2 dt 1 0 (dt 18 0)) 19 2 0 0 192))) rfl ?_
  have hI30 : InvC (am_cp (am_cp (u2 dt 1 0 (dt 18 0)) 19 2 0 0 192) 20 3 0 0 8) := InvC_cp hI16 (fun _ _ => rfl) (fun _ _ => rfl) (fun _ => rfl)
  have hF31 : Fr [1, 2, 3, 4, 5, 6, 7, 8, 9, 10, 11, 12, 13, 14, 15, 16, 17] dt (am_cp (am_cp (u2 dt 1 0 (dt 18 0)) 19 2 0 0 192) 20 3 0 0 8) := Fr_cp hF17 (by decide)
  have w32 : (am_cp (am_cp (u2 dt 1 0 (dt 18 0)) 19 2 0 0 192) 20 3 0 0 8) 1 0 = (am_cp (u2 dt 1 0 (dt 18 0)) 19 2 0 0 192) 1 0 := rfl
  have w33 : (am_cp (am_cp (u2 dt 1 0 (dt 18 0)) 19 2 0 0 192) 20 3 0 0 8) 7 3 = (am_cp (u2 dt 1 0 (dt 18 0)) 19 2 0 0 192) 7 3 := rfl
  have w34 : (am_cp (am_cp (u2 dt 1 0 (dt 18 0)) 19 2 0 0 192) 20 3 0 0 8) 10 3 = (am_cp (u2 dt 1 0 (dt 18 0)) 19 2 0 0 192) 10 3 := rfl
  have w35 : (am_cp (am_cp (u2 dt 1 0 (dt 18 0)) 19 2 0 0 192) 20 3 0 0 8) 12 3 = (am_cp (u2 dt 1 0 (dt 18 0)) 19 2 0 0 192) 12 3 := rfl
  have w36 : (am_cp (am_cp (u2 dt 1 0 (dt 18 0)) 19 2 0 0 192) 20 3 0 0 8) 14 3 = (am_cp (u2 dt 1 0 (dt 18 0)) 19 2 0 0 192) 14 3 := rfl
  have w37 : (am_cp (am_cp (u2 dt 1 0 (dt 18 0)) 19 2 0 0 192) 20 3 0 0 8) 16 3 = (am_cp (u2 dt 1 0 (dt 18 0)) 19 2 0 0 192) 16 3 := rfl
  have w38 : (am_cp (am_cp (u2 dt 1 0 (dt 18 0)) 19 2 0 0 192) 20 3 0 0 8) 18 0 = (am_cp (u2 dt 1 0 (dt 18 0)) 19 2 0 0 192) 18 0 := rfl
  have w39 : (am_cp (am_cp (u2 dt 1 0 (dt 18 0)) 19 2 0 0 192) 20 3 0 0 8) 24 3 = (am_cp (u2 dt 1 0 (dt 18 0)) 19 2 0 0 192) 24 3 := rfl
  have w40 : (am_cp (am_cp (u2 dt 1 0 (dt 18 0)) 19 2 0 0 192) 20 3 0 0 8) 27 3 = (am_cp (u2 dt 1 0 (dt 18 0)) 19 2 0 0 192) 27 3 := rfl
  have w41 : (am_cp (am_cp (u2 dt 1 0 (dt 18 0)) 19 2 0 0 192) 20 3 0 0 8) 29 3 = (am_cp (u2 dt 1 0 (dt 18 0)) 19 2 0 0 192) 29 3 := rfl
  have w42 : (am_cp (am_cp (u2 dt 1 0 (dt 18 0)) 19 2 0 0 192) 20 3 0 0 8) 31 3 = (am_cp (u2 dt 1 0 (dt 18 0)) 19 2 0 0 192) 31 3 := rfl
  have w43 : (am_cp (am_cp (u2 dt 1 0 (dt 18 0)) 19 2 0 0 192) 20 3 0 0 8) 33 3 = (am_cp (u2 dt 1 0 (dt 18 0)) 19 2 0 0 192) 33 3 := rfl
  refine go_cpyq PM4 (L' := [some (.inr (.inr (some 1))), some (.inr (.inr (some 18)))]) (st' := []) (w' := (SH, (am_cp (am_cp (u2 dt 1 0 (dt 18 0)) 19 2 0 0 192) 20 3 0 0 8))) rfl rfl (s_cpy (n0 := 8) (n1 := 8) rfl rfl ⟨⟨by omega, by omega, by omega⟩, by omega, by omega, by decide⟩) ?_
  refine go_toq PM4 (k := 9) (pc' := 59) (L' := [some (.inr (.inr (some 1))), some (.inr (.inr (some 18)))]) (st' := [.inl 256, .inl 0, .inr (.inr (some 4)), .inl 0, .inr (.inr (some 21))]) (w' := (SH, (am_cp (am_cp (u2 dt 1 0 (dt 18 0)) 19 2 0 0 192) 20 3 0 0 8))) rfl ?_
  have hI44 : InvC (am_cp (am_cp (am_cp (u2 dt 1 0 (dt 18 0)) 19 2 0 0 192) 20 3 0 0 8) 21 4 0 0 256) := InvC_cp hI30 (fun _ _ => rfl) (fun _ _ => rfl) (fun _ => rfl)
  have hF45 : Fr [1, 2, 3, 4, 5, 6, 7, 8, 9, 10, 11, 12, 13, 14, 15, 16, 17] dt (am_cp (am_cp (am_cp (u2 dt 1 0 (dt 18 0)) 19 2 0 0 192) 20 3 0 0 8) 21 4 0 0 256) := Fr_cp hF31 (by decide)
  have w46 : (am_cp (am_cp (am_cp (u2 dt 1 0 (dt 18 0)) 19 2 0 0 192) 20 3 0 0 8) 21 4 0 0 256) 1 0 = (am_cp (am_cp (u2 dt 1 0 (dt 18 0)) 19 2 0 0 192) 20 3 0 0 8) 1 0 := rfl
  have w47 : (am_cp (am_cp (am_cp (u2 dt 1 0 (dt 18 0)) 19 2 0 0 192) 20 3 0 0 8) 21 4 0 0 256) 7 3 = (am_cp (am_cp (u2 dt 1 0 (dt 18 0)) 19 2 0 0 192) 20 3 0 0 8) 7 3 := rfl
  have w48 : (am_cp (am_cp (am_cp (u2 dt 1 0 (dt 18 0)) 19 2 0 0 192) 20 3 0 0 8) 21 4 0 0 256) 10 3 = (am_cp (am_cp (u2 dt 1 0 (dt 18 0)) 19 2 0 0 192) 20 3 0 0 8) 10 3 := rfl
  have w49 : (am_cp (am_cp (am_cp (u2 dt 1 0 (dt 18 0)) 19 2 0 0 192) 20 3 0 0 8) 21 4 0 0 256) 12 3 = (am_cp (am_cp (u2 dt 1 0 (dt 18 0)) 19 2 0 0 192) 20 3 0 0 8) 12 3 := rfl
  have w50 : (am_cp (am_cp (am_cp (u2 dt 1 0 (dt 18 0)) 19 2 0 0 192) 20 3 0 0 8) 21 4 0 0 256) 14 3 = (am_cp (am_cp (u2 dt 1 0 (dt 18 0)) 19 2 0 0 192) 20 3 0 0 8) 14 3 := rfl
  have w51 : (am_cp (am_cp (am_cp (u2 dt 1 0 (dt 18 0)) 19 2 0 0 192) 20 3 0 0 8) 21 4 0 0 256) 16 3 = (am_cp (am_cp (u2 dt 1 0 (dt 18 0)) 19 2 0 0 192) 20 3 0 0 8) 16 3 := rfl
  have w52 : (am_cp (am_cp (am_cp (u2 dt 1 0 (dt 18 0)) 19 2 0 0 192) 20 3 0 0 8) 21 4 0 0 256) 18 0 = (am_cp (am_cp (u2 dt 1 0 (dt 18 0)) 19 2 0 0 192) 20 3 0 0 8) 18 0 := rfl
  have w53 : (am_cp (am_cp (am_cp (u2 dt 1 0 (dt 18 0)) 19 2 0 0 192) 20 3 0 0 8) 21 4 0 0 256) 24 3 = (am_cp (am_cp (u2 dt 1 0 (dt 18 0)) 19 2 0 0 192) 20 3 0 0 8) 24 3 := rfl
  have w54 : (am_cp (am_cp (am_cp (u2 dt 1 0 (dt 18 0)) 19 2 0 0 192) 20 3 0 0 8) 21 4 0 0 256) 27 3 = (am_cp (am_cp (u2 dt 1 0 (dt 18 0)) 19 2 0 0 192) 20 3 0 0 8) 27 3 := rfl
  have w55 : (am_cp (am_cp (am_cp (u2 dt 1 0 (dt 18 0)) 19 2 0 0 192) 20 3 0 0 8) 21 4 0 0 256) 29 3 = (am_cp (am_cp (u2 dt 1 0 (dt 18 0)) 19 2 0 0 192) 20 3 0 0 8) 29 3 := rfl
  have w56 : (am_cp (am_cp (am_cp (u2 dt 1 0 (dt 18 0)) 19 2 0 0 192) 20 3 0 0 8) 21 4 0 0 256) 31 3 = (am_cp (am_cp (u2 dt 1 0 (dt 18 0)) 19 2 0 0 192) 20 3 0 0 8) 31 3 := rfl
  have w57 : (am_cp (am_cp (am_cp (u2 dt 1 0 (dt 18 0)) 19 2 0 0 192) 20 3 0 0 8) 21 4 0 0 256) 33 3 = (am_cp (am_cp (u2 dt 1 0 (dt 18 0)) 19 2 0 0 192) 20 3 0 0 8) 33 3 := rfl
  refine go_cpyq PM4 (L' := [some (.inr (.inr (some 1))), some (.inr (.inr (some 18)))]) (st' := []) (w' := (SH, (am_cp (am_cp (am_cp (u2 dt 1 0 (dt 18 0)) 19 2 0 0 192) 20 3 0 0 8) 21 4 0 0 256))) rfl rfl (s_cpy (n0 := 256) (n1 := 256) rfl rfl ⟨⟨by omega, by omega, by omega⟩, by omega, by omega, by decide⟩) ?_
  refine go_toq PM4 (k := 9) (pc' := 77) (L' := [some (.inr (.inr (some 1))), some (.inr (.inr (some 18)))]) (st' := [.inl 4, .inl 0, .inr (.inr (some 5)), .inl 0, .inr (.inr (some 22))]) (w' := (SH, (am_cp (am_cp (am_cp (u2 dt 1 0 (dt 18 0)) 19 2 0 0 192) 20 3 0 0 8) 21 4 0 0 256))) rfl ?_
  have hI58 : InvC (am_cp (am_cp (am_cp (am_cp (u2 dt 1 0 (dt 18 0)) 19 2 0 0 192) 20 3 0 0 8) 21 4 0 0 256) 22 5 0 0 4) := InvC_cp hI44 (fun _ _ => rfl) (fun _ _ => rfl) (fun _ => rfl)
  have hF59 : Fr [1, 2, 3, 4, 5, 6, 7, 8, 9, 10, 11, 12, 13, 14, 15, 16, 17] dt (am_cp (am_cp (am_cp (am_cp (u2 dt 1 0 (dt 18 0)) 19 2 0 0 192) 20 3 0 0 8) 21 4 0 0 256) 22 5 0 0 4) := Fr_cp hF45 (by decide)
  have w60 : (am_cp (am_cp (am_cp (am_cp (u2 dt 1 0 (dt 18 0)) 19 2 0 0 192) 20 3 0 0 8) 21 4 0 0 256) 22 5 0 0 4) 1 0 = (am_cp (am_cp (am_cp (u2 dt 1 0 (dt 18 0)) 19 2 0 0 192) 20 3 0 0 8) 21 4 0 0 256) 1 0 := rfl
  have w61 : (am_cp (am_cp (am_cp (am_cp (u2 dt 1 0 (dt 18 0)) 19 2 0 0 192) 20 3 0 0 8) 21 4 0 0 256) 22 5 0 0 4) 7 3 = (am_cp (am_cp (am_cp (u2 dt 1 0 (dt 18 0)) 19 2 0 0 192) 20 3 0 0 8) 21 4 0 0 256) 7 3 := rfl
  have w62 : (am_cp (am_cp (am_cp (am_cp (u2 dt 1 0 (dt 18 0)) 19 2 0 0 192) 20 3 0 0 8) 21 4 0 0 256) 22 5 0 0 4) 10 3 = (am_cp (am_cp (am_cp (u2 dt 1 0 (dt 18 0)) 19 2 0 0 192) 20 3 0 0 8) 21 4 0 0 256) 10 3 := rfl
  have w63 : (am_cp (am_cp (am_cp (am_cp (u2 dt 1 0 (dt 18 0)) 19 2 0 0 192) 20 3 0 0 8) 21 4 0 0 256) 22 5 0 0 4) 12 3 = (am_cp (am_cp (am_cp (u2 dt 1 0 (dt 18 0)) 19 2 0 0 192) 20 3 0 0 8) 21 4 0 0 256) 12 3 := rfl
  have w64 : (am_cp (am_cp (am_cp (am_cp (u2 dt 1 0 (dt 18 0)) 19 2 0 0 192) 20 3 0 0 8) 21 4 0 0 256) 22 5 0 0 4) 14 3 = (am_cp (am_cp (am_cp (u2 dt 1 0 (dt 18 0)) 19 2 0 0 192) 20 3 0 0 8) 21 4 0 0 256) 14 3 := rfl
  have w65 : (am_cp (am_cp (am_cp (am_cp (u2 dt 1 0 (dt 18 0)) 19 2 0 0 192) 20 3 0 0 8) 21 4 0 0 256) 22 5 0 0 4) 16 3 = (am_cp (am_cp (am_cp (u2 dt 1 0 (dt 18 0)) 19 2 0 0 192) 20 3 0 0 8) 21 4 0 0 256) 16 3 := rfl
  have w66 : (am_cp (am_cp (am_cp (am_cp (u2 dt 1 0 (dt 18 0)) 19 2 0 0 192) 20 3 0 0 8) 21 4 0 0 256) 22 5 0 0 4) 18 0 = (am_cp (am_cp (am_cp (u2 dt 1 0 (dt 18 0)) 19 2 0 0 192) 20 3 0 0 8) 21 4 0 0 256) 18 0 := rfl
  have w67 : (am_cp (am_cp (am_cp (am_cp (u2 dt 1 0 (dt 18 0)) 19 2 0 0 192) 20 3 0 0 8) 21 4 0 0 256) 22 5 0 0 4) 24 3 = (am_cp (am_cp (am_cp (u2 dt 1 0 (dt 18 0)) 19 2 0 0 192) 20 3 0 0 8) 21 4 0 0 256) 24 3 := rfl
  have w68 : (am_cp (am_cp (am_cp (am_cp (u2 dt 1 0 (dt 18 0)) 19 2 0 0 192) 20 3 0 0 8) 21 4 0 0 256) 22 5 0 0 4) 27 3 = (am_cp (am_cp (am_cp (u2 dt 1 0 (dt 18 0)) 19 2 0 0 192) 20 3 0 0 8) 21 4 0 0 256) 27 3 := rfl
  have w69 : (am_cp (am_cp (am_cp (am_cp (u2 dt 1 0 (dt 18 0)) 19 2 0 0 192) 20 3 0 0 8) 21 4 0 0 256) 22 5 0 0 4) 29 3 = (am_cp (am_cp (am_cp (u2 dt 1 0 (dt 18 0)) 19 2 0 0 192) 20 3 0 0 8) 21 4 0 0 256) 29 3 := rfl
  have w70 : (am_cp (am_cp (am_cp (am_cp (u2 dt 1 0 (dt 18 0)) 19 2 0 0 192) 20 3 0 0 8) 21 4 0 0 256) 22 5 0 0 4) 31 3 = (am_cp (am_cp (am_cp (u2 dt 1 0 (dt 18 0)) 19 2 0 0 192) 20 3 0 0 8) 21 4 0 0 256) 31 3 := rfl
  have w71 : (am_cp (am_cp (am_cp (am_cp (u2 dt 1 0 (dt 18 0)) 19 2 0 0 192) 20 3 0 0 8) 21 4 0 0 256) 22 5 0 0 4) 33 3 = (am_cp (am_cp (am_cp (u2 dt 1 0 (dt 18 0)) 19 2 0 0 192) 20 3 0 0 8) 21 4 0 0 256) 33 3 := rfl
  refine go_cpyq PM4 (L' := [some (.inr (.inr (some 1))), some (.inr (.inr (some 18)))]) (st' := []) (w' := (SH, (am_cp (am_cp (am_cp (am_cp (u2 dt 1 0 (dt 18 0)) 19 2 0 0 192) 20 3 0 0 8) 21 4 0 0 256) 22 5 0 0 4))) rfl rfl (s_cpy (n0 := 4) (n1 := 4) rfl rfl ⟨⟨by omega, by omega, by omega⟩, by omega, by omega, by decide⟩) ?_
  refine go_toq PM4 (k := 9) (pc' := 95) (L' := [some (.inr (.inr (some 1))), some (.inr (.inr (some 18)))]) (st' := [.inl 2000, .inl 0, .inr (.inr (some 6)), .inl 0, .inr (.inr (some 23))]) (w' := (SH, (am_cp (am_cp (am_cp (am_cp (u2 dt 1 0 (dt 18 0)) 19 2 0 0 192) 20 3 0 0 8) 21 4 0 0 256) 22 5 0 0 4))) rfl ?_
  have hI72 : InvC (am_cp (am_cp (am_cp (am_cp (am_cp (u2 dt 1 0 (dt 18 0)) 19 2 0 0 192) 20 3 0 0 8) 21 4 0 0 256) 22 5 0 0 4) 23 6 0 0 2000) := InvC_cp hI58 (fun _ _ => rfl) (fun _ _ => rfl) (fun _ => rfl)
  have hF73 : Fr [1, 2, 3, 4, 5, 6, 7, 8, 9, 10, 11, 12, 13, 14, 15, 16, 17] dt (am_cp (am_cp (am_cp (am_cp (am_cp (u2 dt 1 0 (dt 18 0)) 19 2 0 0 192) 20 3 0 0 8) 21 4 0 0 256) 22 5 0 0 4) 23 6 0 0 2000) := Fr_cp hF59 (by decide)
  have w74 : (am_cp (am_cp (am_cp (am_cp (am_cp (u2 dt 1 0 (dt 18 0)) 19 2 0 0 192) 20 3 0 0 8) 21 4 0 0 256) 22 5 0 0 4) 23 6 0 0 2000) 1 0 = (am_cp (am_cp (am_cp (am_cp (u2 dt 1 0 (dt 18 0)) 19 2 0 0 192) 20 3 0 0 8) 21 4 0 0 256) 22 5 0 0 4) 1 0 := rfl
  have w75 : (am_cp (am_cp (am_cp (am_cp (am_cp (u2 dt 1 0 (dt 18 0)) 19 2 0 0 192) 20 3 0 0 8) 21 4 0 0 256) 22 5 0 0 4) 23 6 0 0 2000) 7 3 = (am_cp (am_cp (am_cp (am_cp (u2 dt 1 0 (dt 18 0)) 19 2 0 0 192) 20 3 0 0 8) 21 4 0 0 256) 22 5 0 0 4) 7 3 := rfl
  have w76 : (am_cp (am_cp (am_cp (am_cp (am_cp (u2 dt 1 0 (dt 18 0)) 19 2 0 0 192) 20 3 0 0 8) 21 4 0 0 256) 22 5 0 0 4) 23 6 0 0 2000) 10 3 = (am_cp (am_cp (am_cp (am_cp (u2 dt 1 0 (dt 18 0)) 19 2 0 0 192) 20 3 0 0 8) 21 4 0 0 256) 22 5 0 0 4) 10 3 := rfl
  have w77 : (am_cp (am_cp (am_cp (am_cp (am_cp (u2 dt 1 0 (dt 18 0)) 19 2 0 0 192) 20 3 0 0 8) 21 4 0 0 256) 22 5 0 0 4) 23 6 0 0 2000) 12 3 = (am_cp (am_cp (am_cp (am_cp (u2 dt 1 0 (dt 18 0)) 19 2 0 0 192) 20 3 0 0 8) 21 4 0 0 256) 22 5 0 0 4) 12 3 := rfl
  have w78 : (am_cp (am_cp (am_cp (am_cp (am_cp (u2 dt 1 0 (dt 18 0)) 19 2 0 0 192) 20 3 0 0 8) 21 4 0 0 256) 22 5 0 0 4) 23 6 0 0 2000) 14 3 = (am_cp (am_cp (am_cp (am_cp (u2 dt 1 0 (dt 18 0)) 19 2 0 0 192) 20 3 0 0 8) 21 4 0 0 256) 22 5 0 0 4) 14 3 := rfl
  have w79 : (am_cp (am_cp (am_cp (am_cp (am_cp (u2 dt 1 0 (dt 18 0)) 19 2 0 0 192) 20 3 0 0 8) 21 4 0 0 256) 22 5 0 0 4) 23 6 0 0 2000) 16 3 = (am_cp (am_cp (am_cp (am_cp (u2 dt 1 0 (dt 18 0)) 19 2 0 0 192) 20 3 0 0 8) 21 4 0 0 256) 22 5 0 0 4) 16 3 := rfl
  have w80 : (am_cp (am_cp (am_cp (am_cp (am_cp (u2 dt 1 0 (dt 18 0)) 19 2 0 0 192) 20 3 0 0 8) 21 4 0 0 256) 22 5 0 0 4) 23 6 0 0 2000) 18 0 = (am_cp (am_cp (am_cp (am_cp (u2 dt 1 0 (dt 18 0)) 19 2 0 0 192) 20 3 0 0 8) 21 4 0 0 256) 22 5 0 0 4) 18 0 := rfl
  have w81 : (am_cp (am_cp (am_cp (am_cp (am_cp (u2 dt 1 0 (dt 18 0)) 19 2 0 0 192) 20 3 0 0 8) 21 4 0 0 256) 22 5 0 0 4) 23 6 0 0 2000) 24 3 = (am_cp (am_cp (am_cp (am_cp (u2 dt 1 0 (dt 18 0)) 19 2 0 0 192) 20 3 0 0 8) 21 4 0 0 256) 22 5 0 0 4) 24 3 := rfl
  have w82 : (am_cp (am_cp (am_cp (am_cp (am_cp (u2 dt 1 0 (dt 18 0)) 19 2 0 0 192) 20 3 0 0 8) 21 4 0 0 256) 22 5 0 0 4) 23 6 0 0 2000) 27 3 = (am_cp (am_cp (am_cp (am_cp (u2 dt 1 0 (dt 18 0)) 19 2 0 0 192) 20 3 0 0 8) 21 4 0 0 256) 22 5 0 0 4) 27 3 := rfl
  have w83 : (am_cp (am_cp (am_cp (am_cp (am_cp (u2 dt 1 0 (dt 18 0)) 19 2 0 0 192) 20 3 0 0 8) 21 4 0 0 256) 22 5 0 0 4) 23 6 0 0 2000) 29 3 = (am_cp (am_cp (am_cp (am_cp (u2 dt 1 0 (dt 18 0)) 19 2 0 0 192) 20 3 0 0 8) 21 4 0 0 256) 22 5 0 0 4) 29 3 := rfl
  have w84 : (am_cp (am_cp (am_cp (am_cp (am_cp (u2 dt 1 0 (dt 18 0)) 19 2 0 0 192) 20 3 0 0 8) 21 4 0 0 256) 22 5 0 0 4) 23 6 0 0 2000) 31 3 = (am_cp (am_cp (am_cp (am_cp (u2 dt 1 0 (dt 18 0)) 19 2 0 0 192) 20 3 0 0 8) 21 4 0 0 256) 22 5 0 0 4) 31 3 := rfl
  have w85 : (am_cp (am_cp (am_cp (am_cp (am_cp (u2 dt 1 0 (dt 18 0)) 19 2 0 0 192) 20 3 0 0 8) 21 4 0 0 256) 22 5 0 0 4) 23 6 0 0 2000) 33 3 = (am_cp (am_cp (am_cp (am_cp (u2 dt 1 0 (dt 18 0)) 19 2 0 0 192) 20 3 0 0 8) 21 4 0 0 256) 22 5 0 0 4) 33 3 := rfl
  refine go_cpyq PM4 (L' := [some (.inr (.inr (some 1))), some (.inr (.inr (some 18)))]) (st' := []) (w' := (SH, (am_cp (am_cp (am_cp (am_cp (am_cp (u2 dt 1 0 (dt 18 0)) 19 2 0 0 192) 20 3 0 0 8) 21 4 0 0 256) 22 5 0 0 4) 23 6 0 0 2000))) rfl rfl (s_cpy (n0 := 2000) (n1 := 2000) rfl rfl ⟨⟨by omega, by omega, by omega⟩, by omega, by omega, by decide⟩) ?_
  refine go_toq PM4 (k := 9) (pc' := 113) (L' := [some (.inr (.inr (some 1))), some (.inr (.inr (some 18)))]) (st' := [.inl 132, .inl 0, .inr (.inr (some 9)), .inl 0, .inr (.inr (some 26))]) (w' := (SH, (am_cp (am_cp (am_cp (am_cp (am_cp (u2 dt 1 0 (dt 18 0)) 19 2 0 0 192) 20 3 0 0 8) 21 4 0 0 256) 22 5 0 0 4) 23 6 0 0 2000))) rfl ?_
  have hI86 : InvC (am_cp (am_cp (am_cp (am_cp (am_cp (am_cp (u2 dt 1 0 (dt 18 0)) 19 2 0 0 192) 20 3 0 0 8) 21 4 0 0 256) 22 5 0 0 4) 23 6 0 0 2000) 26 9 0 0 132) := InvC_cp hI72 (fun _ _ => rfl) (fun _ _ => rfl) (fun _ => rfl)
  have hF87 : Fr [1, 2, 3, 4, 5, 6, 7, 8, 9, 10, 11, 12, 13, 14, 15, 16, 17] dt (am_cp (am_cp (am_cp (am_cp (am_cp (am_cp (u2 dt 1 0 (dt 18 0)) 19 2 0 0 192) 20 3 0 0 8) 21 4 0 0 256) 22 5 0 0 4) 23 6 0 0 2000) 26 9 0 0 132) := Fr_cp hF73 (by decide)
  have w88 : (am_cp (am_cp (am_cp (am_cp (am_cp (am_cp (u2 dt 1 0 (dt 18 0)) 19 2 0 0 192) 20 3 0 0 8) 21 4 0 0 256) 22 5 0 0 4) 23 6 0 0 2000) 26 9 0 0 132) 1 0 = (am_cp (am_cp (am_cp (am_cp (am_cp (u2 dt 1 0 (dt 18 0)) 19 2 0 0 192) 20 3 0 0 8) 21 4 0 0 256) 22 5 0 0 4) 23 6 0 0 2000) 1 0 := rfl
  have w89 : (am_cp (am_cp (am_cp (am_cp (am_cp (am_cp (u2 dt 1 0 (dt 18 0)) 19 2 0 0 192) 20 3 0 0 8) 21 4 0 0 256) 22 5 0 0 4) 23 6 0 0 2000) 26 9 0 0 132) 7 3 = (am_cp (am_cp (am_cp (am_cp (am_cp (u2 dt 1 0 (dt 18 0)) 19 2 0 0 192) 20 3 0 0 8) 21 4 0 0 256) 22 5 0 0 4) 23 6 0 0 2000) 7 3 := rfl
  have w90 : (am_cp (am_cp (am_cp (am_cp (am_cp (am_cp (u2 dt 1 0 (dt 18 0)) 19 2 0 0 192) 20 3 0 0 8) 21 4 0 0 256) 22 5 0 0 4) 23 6 0 0 2000) 26 9 0 0 132) 10 3 = (am_cp (am_cp (am_cp (am_cp (am_cp (u2 dt 1 0 (dt 18 0)) 19 2 0 0 192) 20 3 0 0 8) 21 4 0 0 256) 22 5 0 0 4) 23 6 0 0 2000) 10 3 := rfl
  have w91 : (am_cp (am_cp (am_cp (am_cp (am_cp (am_cp (u2 dt 1 0 (dt 18 0)) 19 2 0 0 192) 20 3 0 0 8) 21 4 0 0 256) 22 5 0 0 4) 23 6 0 0 2000) 26 9 0 0 132) 12 3 = (am_cp (am_cp (am_cp (am_cp (am_cp (u2 dt 1 0 (dt 18 0)) 19 2 0 0 192) 20 3 0 0 8) 21 4 0 0 256) 22 5 0 0 4) 23 6 0 0 2000) 12 3 := rfl
  have w92 : (am_cp (am_cp (am_cp (am_cp (am_cp (am_cp (u2 dt 1 0 (dt 18 0)) 19 2 0 0 192) 20 3 0 0 8) 21 4 0 0 256) 22 5 0 0 4) 23 6 0 0 2000) 26 9 0 0 132) 14 3 = (am_cp (am_cp (am_cp (am_cp (am_cp (u2 dt 1 0 (dt 18 0)) 19 2 0 0 192) 20 3 0 0 8) 21 4 0 0 256) 22 5 0 0 4) 23 6 0 0 2000) 14 3 := rfl
  have w93 : (am_cp (am_cp (am_cp (am_cp (am_cp (am_cp (u2 dt 1 0 (dt 18 0)) 19 2 0 0 192) 20 3 0 0 8) 21 4 0 0 256) 22 5 0 0 4) 23 6 0 0 2000) 26 9 0 0 132) 16 3 = (am_cp (am_cp (am_cp (am_cp (am_cp (u2 dt 1 0 (dt 18 0)) 19 2 0 0 192) 20 3 0 0 8) 21 4 0 0 256) 22 5 0 0 4) 23 6 0 0 2000) 16 3 := rfl
  have w94 : (am_cp (am_cp (am_cp (am_cp (am_cp (am_cp (u2 dt 1 0 (dt 18 0)) 19 2 0 0 192) 20 3 0 0 8) 21 4 0 0 256) 22 5 0 0 4) 23 6 0 0 2000) 26 9 0 0 132) 18 0 = (am_cp (am_cp (am_cp (am_cp (am_cp (u2 dt 1 0 (dt 18 0)) 19 2 0 0 192) 20 3 0 0 8) 21 4 0 0 256) 22 5 0 0 4) 23 6 0 0 2000) 18 0 := rfl
  have w95 : (am_cp (am_cp (am_cp (am_cp (am_cp (am_cp (u2 dt 1 0 (dt 18 0)) 19 2 0 0 192) 20 3 0 0 8) 21 4 0 0 256) 22 5 0 0 4) 23 6 0 0 2000) 26 9 0 0 132) 24 3 = (am_cp (am_cp (am_cp (am_cp (am_cp (u2 dt 1 0 (dt 18 0)) 19 2 0 0 192) 20 3 0 0 8) 21 4 0 0 256) 22 5 0 0 4) 23 6 0 0 2000) 24 3 := rfl
  have w96 : (am_cp (am_cp (am_cp (am_cp (am_cp (am_cp (u2 dt 1 0 (dt 18 0)) 19 2 0 0 192) 20 3 0 0 8) 21 4 0 0 256) 22 5 0 0 4) 23 6 0 0 2000) 26 9 0 0 132) 27 3 = (am_cp (am_cp (am_cp (am_cp (am_cp (u2 dt 1 0 (dt 18 0)) 19 2 0 0 192) 20 3 0 0 8) 21 4 0 0 256) 22 5 0 0 4) 23 6 0 0 2000) 27 3 := rfl
  have w97 : (am_cp (am_cp (am_cp (am_cp (am_cp (am_cp (u2 dt 1 0 (dt 18 0)) 19 2 0 0 192) 20 3 0 0 8) 21 4 0 0 256) 22 5 0 0 4) 23 6 0 0 2000) 26 9 0 0 132) 29 3 = (am_cp (am_cp (am_cp (am_cp (am_cp (u2 dt 1 0 (dt 18 0)) 19 2 0 0 192) 20 3 0 0 8) 21 4 0 0 256) 22 5 0 0 4) 23 6 0 0 2000) 29 3 := rfl
  have w98 : (am_cp (am_cp (am_cp (am_cp (am_cp (am_cp (u2 dt 1 0 (dt 18 0)) 19 2 0 0 192) 20 3 0 0 8) 21 4 0 0 256) 22 5 0 0 4) 23 6 0 0 2000) 26 9 0 0 132) 31 3 = (am_cp (am_cp (am_cp (am_cp (am_cp (u2 dt 1 0 (dt 18 0)) 19 2 0 0 192) 20 3 0 0 8) 21 4 0 0 256) 22 5 0 0 4) 23 6 0 0 2000) 31 3 := rfl
  have w99 : (am_cp (am_cp (am_cp (am_cp (am_cp (am_cp (u2 dt 1 0 (dt 18 0)) 19 2 0 0 192) 20 3 0 0 8) 21 4 0 0 256) 22 5 0 0 4) 23 6 0 0 2000) 26 9 0 0 132) 33 3 = (am_cp (am_cp (am_cp (am_cp (am_cp (u2 dt 1 0 (dt 18 0)) 19 2 0 0 192) 20 3 0 0 8) 21 4 0 0 256) 22 5 0 0 4) 23 6 0 0 2000) 33 3 := rfl
  refine go_cpyq PM4 (L' := [some (.inr (.inr (some 1))), some (.inr (.inr (some 18)))]) (st' := []) (w' := (SH, (am_cp (am_cp (am_cp (am_cp (am_cp (am_cp (u2 dt 1 0 (dt 18 0)) 19 2 0 0 192) 20 3 0 0 8) 21 4 0 0 256) 22 5 0 0 4) 23 6 0 0 2000) 26 9 0 0 132))) rfl rfl (s_cpy (n0 := 132) (n1 := 132) rfl rfl ⟨⟨by omega, by omega, by omega⟩, by omega, by omega, by decide⟩) ?_
  refine go_toq PM4 (k := 4) (pc' := 124) (L' := [some (.inr (.inr (some 1))), some (.inr (.inr (some 18)))]) (st' := [.inr (.inr (some 24)), .inr (.inr (some 7))]) (w' := (SH, (am_cp (am_cp (am_cp (am_cp (am_cp (am_cp (u2 dt 1 0 (dt 18 0)) 19 2 0 0 192) 20 3 0 0 8) 21 4 0 0 256) 22 5 0 0 4) 23 6 0 0 2000) 26 9 0 0 132))) rfl ?_
  refine go_callq PM4 PM42 (Q' := _) rfl rfl rfl rfl (sp_X2_copyFrom_7 L xs sio (d + 0) (am_cp (am_cp (am_cp (am_cp (am_cp (am_cp (u2 dt 1 0 (dt 18 0)) 19 2 0 0 192) 20 3 0 0 8) 21 4 0 0 256) 22 5 0 0 4) 23 6 0 0 2000) 26 9 0 0 132) hI86   ) ?_
  rintro _ _ ⟨dt101, rfl, hI102, hF103, h100⟩
  refine ⟨rfl, ?_⟩
  have hF104 : Fr [1, 2, 3, 4, 5, 6, 7, 8, 9, 10, 11, 12, 13, 14, 15, 16, 17] dt dt101 := Fr_tr hF87 hF103 (by decide)
  have w105 : dt101 1 0 = (am_cp (am_cp (am_cp (am_cp (am_cp (am_cp (u2 dt 1 0 (dt 18 0)) 19 2 0 0 192) 20 3 0 0 8) 21 4 0 0 256) 22 5 0 0 4) 23 6 0 0 2000) 26 9 0 0 132) 1 0 := hF103 1 (by decide) 0
  have w106 : dt101 10 3 = (am_cp (am_cp (am_cp (am_cp (am_cp (am_cp (u2 dt 1 0 (dt 18 0)) 19 2 0 0 192) 20 3 0 0 8) 21 4 0 0 256) 22 5 0 0 4) 23 6 0 0 2000) 26 9 0 0 132) 10 3 := hF103 10 (by decide) 3
  have w107 : dt101 12 3 = (am_cp (am_cp (am_cp (am_cp (am_cp (am_cp (u2 dt 1 0 (dt 18 0)) 19 2 0 0 192) 20 3 0 0 8) 21 4 0 0 256) 22 5 0 0 4) 23 6 0 0 2000) 26 9 0 0 132) 12 3 := hF103 12 (by decide) 3
  have w108 : dt101 14 3 = (am_cp (am_cp (am_cp (am_cp (am_cp (am_cp (u2 dt 1 0 (dt 18 0)) 19 2 0 0 192) 20 3 0 0 8) 21 4 0 0 256) 22 5 0 0 4) 23 6 0 0 2000) 26 9 0 0 132) 14 3 := hF103 14 (by decide) 3
  have w109 : dt101 16 3 = (am_cp (am_cp (am_cp (am_cp (am_cp (am_cp (u2 dt 1 0 (dt 18 0)) 19 2 0 0 192) 20 3 0 0 8) 21 4 0 0 256) 22 5 0 0 4) 23 6 0 0 2000) 26 9 0 0 132) 16 3 := hF103 16 (by decide) 3
  have w110 : dt101 18 0 = (am_cp (am_cp (am_cp (am_cp (am_cp (am_cp (u2 dt 1 0 (dt 18 0)) 19 2 0 0 192) 20 3 0 0 8) 21 4 0 0 256) 22 5 0 0 4) 23 6 0 0 2000) 26 9 0 0 132) 18 0 := hF103 18 (by decide) 0
  have w111 : dt101 24 3 = (am_cp (am_cp (am_cp (am_cp (am_cp (am_cp (u2 dt 1 0 (dt 18 0)) 19 2 0 0 192) 20 3 0 0 8) 21 4 0 0 256) 22 5 0 0 4) 23 6 0 0 2000) 26 9 0 0 132) 24 3 := hF103 24 (by decide) 3
  have w112 : dt101 27 3 = (am_cp (am_cp (am_cp (am_cp (am_cp (am_cp (u2 dt 1 0 (dt 18 0)) 19 2 0 0 192) 20 3 0 0 8) 21 4 0 0 256) 22 5 0 0 4) 23 6 0 0 2000) 26 9 0 0 132) 27 3 := hF103 27 (by decide) 3
  have w113 : dt101 29 3 = (am_cp (am_cp (am_cp (am_cp (am_cp (am_cp (u2 dt 1 0 (dt 18 0)) 19 2 0 0 192) 20 3 0 0 8) 21 4 0 0 256) 22 5 0 0 4) 23 6 0 0 2000) 26 9 0 0 132) 29 3 := hF103 29 (by decide) 3
  have w114 : dt101 31 3 = (am_cp (am_cp (am_cp (am_cp (am_cp (am_cp (u2 dt 1 0 (dt 18 0)) 19 2 0 0 192) 20 3 0 0 8) 21 4 0 0 256) 22 5 0 0 4) 23 6 0 0 2000) 26 9 0 0 132) 31 3 := hF103 31 (by decide) 3
  have w115 : dt101 33 3 = (am_cp (am_cp (am_cp (am_cp (am_cp (am_cp (u2 dt 1 0 (dt 18 0)) 19 2 0 0 192) 20 3 0 0 8) 21 4 0 0 256) 22 5 0 0 4) 23 6 0 0 2000) 26 9 0 0 132) 33 3 := hF103 33 (by decide) 3
  rcases h100 with ⟨rfl, h100⟩
  refine go_toq PM4 (k := 4) (pc' := 135) (L' := [some (.inr (.inr (some 1))), some (.inr (.inr (some 18)))]) (st' := [.inr (.inr (some 27)), .inr (.inr (some 10))]) (w' := (SH, dt101)) rfl ?_
  refine go_callq PM4 PM42 (Q' := _) rfl rfl rfl rfl (sp_X2_copyFrom_10 L xs sio (d + 0) dt101 hI102   ) ?_
  rintro _ _ ⟨dt117, rfl, hI118, hF119, h116⟩
  refine ⟨rfl, ?_⟩
  have hF120 : Fr [1, 2, 3, 4, 5, 6, 7, 8, 9, 10, 11, 12, 13, 14, 15, 16, 17] dt dt117 := Fr_tr hF104 hF119 (by decide)
  have w121 : dt117 1 0 = dt101 1 0 := hF119 1 (by decide) 0
  have w122 : dt117 7 3 = dt101 7 3 := hF119 7 (by decide) 3
  have w123 : dt117 12 3 = dt101 12 3 := hF119 12 (by decide) 3
  have w124 : dt117 14 3 = dt101 14 3 := hF119 14 (by decide) 3
  have w125 : dt117 16 3 = dt101 16 3 := hF119 16 (by decide) 3
  have w126 : dt117 18 0 = dt101 18 0 := hF119 18 (by decide) 0
  have w127 : dt117 24 3 = dt101 24 3 := hF119 24 (by decide) 3
  have w128 : dt117 27 3 = dt101 27 3 := hF119 27 (by decide) 3
  have w129 : dt117 29 3 = dt101 29 3 := hF119 29 (by decide) 3
  have w130 : dt117 31 3 = dt101 31 3 := hF119 31 (by decide) 3
  have w131 : dt117 33 3 = dt101 33 3 := hF119 33 (by decide) 3
  rcases h116 with ⟨rfl, h116⟩
  refine go_toq PM4 (k := 4) (pc' := 146) (L' := [some (.inr (.inr (some 1))), some (.inr (.inr (some 18)))]) (st' := [.inr (.inr (some 29)), .inr (.inr (some 12))]) (w' := (SH, dt117)) rfl ?_
  refine go_callq PM4 PM42 (Q' := _) rfl rfl rfl rfl (sp_X2_copyFrom_12 L xs sio (d + 0) dt117 hI118   ) ?_
  rintro _ _ ⟨dt133, rfl, hI134, hF135, h132⟩
  refine ⟨rfl, ?_⟩
  have hF136 : Fr [1, 2, 3, 4, 5, 6, 7, 8, 9, 10, 11, 12, 13, 14, 15, 16, 17] dt dt133 := Fr_tr hF120 hF135 (by decide)
  have w137 : dt133 1 0 = dt117 1 0 := hF135 1 (by decide) 0
  have w138 : dt133 7 3 = dt117 7 3 := hF135 7 (by decide) 3
  have w139 : dt133 10 3 = dt117 10 3 := hF135 10 (by decide) 3
  have w140 : dt133 14 3 = dt117 14 3 := hF135 14 (by decide) 3
  have w141 : dt133 16 3 = dt117 16 3 := hF135 16 (by decide) 3
  have w142 : dt133 18 0 = dt117 18 0 := hF135 18 (by decide) 0
  have w143 : dt133 24 3 = dt117 24 3 := hF135 24 (by decide) 3
  have w144 : dt133 27 3 = dt117 27 3 := hF135 27 (by decide) 3
  have w145 : dt133 29 3 = dt117 29 3 := hF135 29 (by decide) 3
  have w146 : dt133 31 3 = dt117 31 3 := hF135 31 (by decide) 3
  have w147 : dt133 33 3 = dt117 33 3 := hF135 33 (by decide) 3
  rcases h132 with ⟨rfl, h132⟩
  refine go_toq PM4 (k := 4) (pc' := 157) (L' := [some (.inr (.inr (some 1))), some (.inr (.inr (some 18)))]) (st' := [.inr (.inr (some 31)), .inr (.inr (some 14))]) (w' := (SH, dt133)) rfl ?_
  refine go_callq PM4 PM42 (Q' := _) rfl rfl rfl rfl (sp_X2_copyFrom_14f L xs sio (d + 0) dt133 hI134   ) ?_
  rintro _ _ ⟨dt149, rfl, hI150, hF151, h148⟩
  refine ⟨rfl, ?_⟩
  have hF152 : Fr [1, 2, 3, 4, 5, 6, 7, 8, 9, 10, 11, 12, 13, 14, 15, 16, 17] dt dt149 := Fr_tr hF136 hF151 (by decide)
  have w153 : dt149 1 0 = dt133 1 0 := hF151 1 (by decide) 0
  have w154 : dt149 7 3 = dt133 7 3 := hF151 7 (by decide) 3
  have w155 : dt149 10 3 = dt133 10 3 := hF151 10 (by decide) 3
  have w156 : dt149 12 3 = dt133 12 3 := hF151 12 (by decide) 3
  have w157 : dt149 16 3 = dt133 16 3 := hF151 16 (by decide) 3
  have w158 : dt149 18 0 = dt133 18 0 := hF151 18 (by decide) 0
  have w159 : dt149 24 3 = dt133 24 3 := hF151 24 (by decide) 3
  have w160 : dt149 27 3 = dt133 27 3 := hF151 27 (by decide) 3
  have w161 : dt149 29 3 = dt133 29 3 := hF151 29 (by decide) 3
  have w162 : dt149 31 3 = dt133 31 3 := hF151 31 (by decide) 3
  have w163 : dt149 33 3 = dt133 33 3 := hF151 33 (by decide) 3
  rcases h148 with ⟨rfl, h148⟩
  obtain ⟨h148_0, h148_1⟩ := h148
  have T164 : ∀ j : Nat, j < 80 → dt149 15 j = dt 32 j := fun j hj => (h148_1 j hj).trans (((hF151 32 (by decide) j).symm).trans (hF152 32 (by decide) j))
  refine go_toq PM4 (k := 4) (pc' := 168) (L' := [some (.inr (.inr (some 1))), some (.inr (.inr (some 18)))]) (st' := [.inr (.inr (some 33)), .inr (.inr (some 16))]) (w' := (SH, dt149)) rfl ?_
  refine go_callq PM4 PM42 (Q' := _) rfl rfl rfl rfl (sp_X2_copyFrom_16f L xs sio (d + 0) dt149 hI150   ) ?_
  rintro _ _ ⟨dt166, rfl, hI167, hF168, h165⟩
  refine ⟨rfl, ?_⟩
  have hF169 : Fr [1, 2, 3, 4, 5, 6, 7, 8, 9, 10, 11, 12, 13, 14, 15, 16, 17] dt dt166 := Fr_tr hF152 hF168 (by decide)
  have w170 : dt166 1 0 = dt149 1 0 := hF168 1 (by decide) 0
  have w171 : dt166 7 3 = dt149 7 3 := hF168 7 (by decide) 3
  have w172 : dt166 10 3 = dt149 10 3 := hF168 10 (by decide) 3
  have w173 : dt166 12 3 = dt149 12 3 := hF168 12 (by decide) 3
  have w174 : dt166 14 3 = dt149 14 3 := hF168 14 (by decide) 3
  have w175 : dt166 18 0 = dt149 18 0 := hF168 18 (by decide) 0
  have w176 : dt166 24 3 = dt149 24 3 := hF168 24 (by decide) 3
  have w177 : dt166 27 3 = dt149 27 3 := hF168 27 (by decide) 3
  have w178 : dt166 29 3 = dt149 29 3 := hF168 29 (by decide) 3
  have w179 : dt166 31 3 = dt149 31 3 := hF168 31 (by decide) 3
  have w180 : dt166 33 3 = dt149 33 3 := hF168 33 (by decide) 3
  rcases h165 with ⟨rfl, h165⟩
  obtain ⟨h165_0, h165_1⟩ := h165
  have T181 : ∀ j : Nat, j < 80 → dt166 15 j = dt 32 j := fun j hj => (hF168 15 (by decide) j).trans (T164 j hj)
  have T182 : ∀ j : Nat, j < 40 → dt166 17 j = dt 34 j := fun j hj => (h165_1 j hj).trans (((hF168 34 (by decide) j).symm).trans (hF169 34 (by decide) j))
  refine go_retq PM4 (k := 0) (r := none) (w1 := (SH, dt166)) rfl ?_
  exact ⟨dt166, rfl, hI167, hF169, ⟨rfl, ⟨by first | exact True.intro | with_reducible assumption | rfl | omega | trivial, by first | exact True.intro | with_reducible assumption | rfl | omega | trivial, by first | exact True.intro | with_reducible assumption | rfl | omega | trivial, by first | exact True.intro | with_reducible assumption | rfl | omega | trivial, by first | exact True.intro | with_reducible assumption | rfl | omega | trivial, by first | exact True.intro | with_reducible assumption | rfl | omega | trivial, by assumption, by assumption⟩⟩⟩
theorem sp_X0_copyFrom_18f (L : Nat) (xs : Nat → Int32) (sio : Option Nat) (d : Nat) (dt : Nat → Nat → Int) (hI : InvC dt)    : GO (am_XX L xs sio) (d + 2) 4 0 [some (.inr (.inr (some 18))), some (.inr (.inr (some 1)))] [] (SH, dt) (fun r w2 => ∃ dt2 : Nat → Nat → Int, w2 = (SH, dt2) ∧ InvC dt2 ∧ Fr [18, 19, 20, 21, 22, 23, 24, 25, 26, 27, 28, 29, 30, 31, 32, 33, 34] dt dt2 ∧ ((r = none ∧ (dt2 18 0 = dt 1 0) ∧ (dt2 24 3 = dt 7 3) ∧ (dt2 27 3 = dt 10 3) ∧ (dt2 29 3 = dt 12 3) ∧ (dt2 31 3 = dt 14 3) ∧ (dt2 33 3 = dt 16 3) ∧ (∀ j : Nat, j < 80 → dt2 32 j = dt 15 j) ∧ (∀ j : Nat, j < 40 → dt2 34 j = dt 17 j)))) := by
  have hF : Fr [18, 19, 20, 21, 22, 23, 24, 25, 26, 27, 28, 29, 30, 31, 32, 33, 34] dt dt := Fr_refl
  have r1 : (-2147483648) ≤ dt 1 0 ∧ dt 1 0 ≤ 2147483647 := InvC_get hI 1 0 rfl rfl
  refine go_toq PM4 (k := 3) (pc' := 5) (L' := [some (.inr (.inr (some 18))), some (.inr (.inr (some 1)))]) (st' := [.inl (dt 1 0), .inr (.inr (some 18))]) (w' := (SH, dt)) rfl ?_
  have hI2 : InvC (u2 dt 18 0 (dt 1 0)) := InvC_u2 hI (lo := -2147483648) (hi := 2147483647) rfl rfl rfl (by first | exact bnd1 r1 (by decide) | omega) (by first | exact bnd2 r1 (by decide) | omega)
  have hF3 : Fr [18, 19, 20, 21, 22, 23, 24, 25, 26, 27, 28, 29, 30, 31, 32, 33, 34] dt (u2 dt 18 0 (dt 1 0)) := Fr_u2 hF (by decide)
  have w4 : (u2 dt 18 0 (dt 1 0)) 18 0 = dt 1 0 := rfl
  have w5 : (u2 dt 18 0 (dt 1 0)) 24 3 = dt 24 3 := rfl
  have w6 : (u2 dt 18 0 (dt 1 0)) 27 3 = dt 27 3 := rfl
  have w7 : (u2 dt 18 0 (dt 1 0)) 29 3 = dt 29 3 := rfl
  have w8 : (u2 dt 18 0 (dt 1 0)) 31 3 = dt 31 3 := rfl
  have w9 : (u2 dt 18 0 (dt 1 0)) 33 3 = dt 33 3 := rfl
  have w10 : (u2 dt 18 0 (dt 1 0)) 1 0 = dt 1 0 := rfl
  have w11 : (u2 dt 18 0 (dt 1 0)) 7 3 = dt 7 3 := rfl
  have w12 : (u2 dt 18 0 (dt 1 0)) 10 3 = dt 10 3 := rfl
  have w13 : (u2 dt 18 0 (dt 1 0)) 12 3 = dt 12 3 := rfl
  have w14 : (u2 dt 18 0 (dt 1 0)) 14 3 = dt 14 3 := rfl
  have w15 : (u2 dt 18 0 (dt 1 0)) 16 3 = dt 16 3 := rfl
  refine go_smpq PM4 (L' := [some (.inr (.inr (some 18))), some (.inr (.inr (some 1)))]) (st' := []) (w' := (SH, (u2 dt 18 0 (dt 1 0)))) rfl rfl (s_pf rfl rfl rfl rfl (by first | exact bnd r1 (by decide) (by decide) | exact ⟨by omega, by omega⟩)) ?_
  refine go_toq PM4 (k := 9) (pc' := 23) (L' := [some (.inr (.inr (some 18))), some (.inr (.inr (some 1)))]) (st' := [.inl 192, .inl 0, .inr (.inr (some 19)), .inl 0, .inr (.inr (some 2))]) (w' := (SH, (u2 dt 18 0 (dt 1 0)))) rfl ?_
  have hI16 : InvC (am_cp (u2 dt 18 0 (dt 1 0)) 2 19 0 0 192) := InvC_cp hI2 (fun _ _ => rfl) (fun _ _ => rfl) (fun _ => rfl)
  have hF17 : Fr [18, 19, 20, 21, 22, 23, 24, 25, 26, 27, 28, 29, 30, 31, 32, 33, 34] dt (am_cp (u2 dt 18 0 (dt 1 0)) 2 19 0 0 192) := Fr_cp hF3 (by decide)
  have w18 : (am_cp (u2 dt 18 0 (dt 1 0)) 2 19 0 0 192) 18 0 = (u2 dt 18 0 (dt 1 0)) 18 0 := rfl
  have w19 : (am_cp (u2 dt 18 0 (dt 1 0)) 2 19 0 0 192) 24 3 = (u2 dt 18 0 (dt 1 0)) 24 3 := rfl
  have w20 : (am_cp (u2 dt 18 0 (dt 1 0)) 2 19 0 0 192) 27 3 = (u2 dt 18 0 (dt 1 0)) 27 3 := rfl
  have w21 : (am_cp (u2 dt 18 0 (dt 1 0)) 2 19 0 0 192) 29 3 = (u2 dt 18 0 (dt 1 0)) 29 3 := rfl
  have w22 : (am_cp (u2 dt 18 0 (dt 1 0)) 2 19 0 0 192) 31 3 = (u2 dt 18 0 (dt 1 0)) 31 3 := rfl
  have w23 : (am_cp (u2 dt 18 0 (dt 1 0)) 2 19 0 0 192) 33 3 = (u2 dt 18 0 (dt 1 0)) 33 3 := rfl
  have w24 : (am_cp (u2 dt 18 0 (dt 1 0)) 2 19 0 0 192) 1 0 = (u2 dt 18 0 (dt 1 0)) 1 0 := rfl
  have w25 : (am_cp (u2 dt 18 0 (dt 1 0)) 2 19 0 0 192) 7 3 = (u2 dt 18 0 (dt 1 0)) 7 3 := rfl
  have w26 : (am_cp (u2 dt 18 0 (dt 1 0)) 2 19 0 0 192) 10 3 = (u2 dt 18 0 (dt 1 0)) 10 3 := rfl
  have w27 : (am_cp (u2 dt 18 0 (dt 1 0)) 2 19 0 0 192) 12 3 = (u2 dt 18 0 (dt 1 0)) 12 3 := rfl
  have w28 : (am_cp (u2 dt 18 0 (dt 1 0)) 2 19 0 0 192) 14 3 = (u2 dt 18 0 (dt 1 0)) 14 3 := rfl
  have w29 : (am_cp (u2 dt 18 0 (dt 1 0)) 2 19 0 0 192) 16 3 = (u2 dt 18 0 (dt 1 0)) 16 3 := rfl
  refine go_cpyq PM4 (L' := [some (.inr (.inr (some 18))), some (.inr (.inr (some 1)))]) (st' := []) (w' := (SH, (am_cp (u2 dt 18 0 (dt 1 0)) 2 19 0 0 192))) rfl rfl (s_cpy (n0 := 192) (n1 := 192) rfl rfl ⟨⟨by omega, by omega, by omega⟩, by omega, by omega, by decide⟩) ?_
  refine go_toq PM4 (k := 9) (pc' := 41) (L' := [some (.inr (.inr (some 18))), some (.inr (.inr (some 1)))]) (st' := [.inl 8, .inl 0, .inr (.inr (some 20)), .inl 0, .inr (.inr (some 3))]) (w' := (SH, (am_cp (u2 dt 18 0 (dt 1 0)) 2 19 0 0 192))) rfl ?_
  have hI30 : InvC (am_cp (am_cp (u2 dt 18 0 (dt 1 0)) 2 19 0 0 192) 3 20 0 0 8) := InvC_cp hI16 (fun _ _ => rfl) (fun _ _ => rfl) (fun _ => rfl)
  have hF31 : Fr [18, 19, 20, 21, 22, 23, 24, 25, 26, 27, 28, 29, 30, 31, 32, 33, 34] dt (am_cp (am_cp (u2 dt 18 0 (dt 1 0)) 2 19 0 0 192) 3 20 0 0 8) := Fr_cp hF17 (by decide)
  have w32 : (am_cp (am_cp (u2 dt 18 0 (dt 1 0)) 2 19 0 0 192) 3 20 0 0 8) 18 0 = (am_cp (u2 dt 18 0 (dt 1 0)) 2 19 0 0 192) 18 0 := rfl
  have w33 : (am_cp (am_cp (u2 dt 18 0 (dt 1 0)) 2 19 0 0 192) 3 20 0 0 8) 24 3 = (am_cp (u2 dt 18 0 (dt 1 0)) 2 19 0 0 192) 24 3 := rfl
  have w34 : (am_cp (am_cp (u2 dt 18 0 (dt 1 0)) 2 19 0 0 192) 3 20 0 0 8) 27 3 = (am_cp (u2 dt 18 0 (dt 1 0)) 2 19 0 0 192) 27 3 := rfl
  have w35 : (am_cp (am_cp (u2 dt 18 0 (dt 1 0)) 2 19 0 0 192) 3 20 0 0 8) 29 3 = (am_cp (u2 dt 18 0 (dt 1 0)) 2 19 0 0 192) 29 3 := rfl
  have w36 : (am_cp (am_cp (u2 dt 18 0 (dt 1 0)) 2 19 0 0 192) 3 20 0 0 8) 31 3 = (am_cp (u2 dt 18 0 (dt 1 0)) 2 19 0 0 192) 31 3 := rfl
  have w37 : (am_cp (am_cp (u2 dt 18 0 (dt 1 0)) 2 19 0 0 192) 3 20 0 0 8) 33 3 = (am_cp (u2 dt 18 0 (dt 1 0)) 2 19 0 0 192) 33 3 := rfl
  have w38 : (am_cp (am_cp (u2 dt 18 0 (dt 1 0)) 2 19 0 0 192) 3 20 0 0 8) 1 0 = (am_cp (u2 dt 18 0 (dt 1 0)) 2 19 0 0 192) 1 0 := rfl
  have w39 : (am_cp (am_cp (u2 dt 18 0 (dt 1 0)) 2 19 0 0 192) 3 20 0 0 8) 7 3 = (am_cp (u2 dt 18 0 (dt 1 0)) 2 19 0 0 192) 7 3 := rfl
  have w40 : (am_cp (am_cp (u2 dt 18 0 (dt 1 0)) 2 19 0 0 192) 3 20 0 0 8) 10 3 = (am_cp (u2 dt 18 0 (dt 1 0)) 2 19 0 0 192) 10 3 := rfl
  have w41 : (am_cp (am_cp (u2 dt 18 0 (dt 1 0)) 2 19 0 0 192) 3 20 0 0 8) 12 3 = (am_cp (u2 dt 18 0 (dt 1 0)) 2 19 0 0 192) 12 3 := rfl
  have w42 : (am_cp (am_cp (u2 dt 18 0 (dt 1 0)) 2 19 0 0 192) 3 20 0 0 8) 14 3 = (am_cp (u2 dt 18 0 (dt 1 0)) 2 19 0 0 192) 14 3 := rfl
  have w43 : (am_cp (am_cp (u2 dt 18 0 (dt 1 0)) 2 19 0 0 192) 3 20 0 0 8) 16 3 = (am_cp (u2 dt 18 0 (dt 1 0)) 2 19 0 0 192) 16 3 := rfl
  refine go_cpyq PM4 (L' := [some (.inr (.inr (some 18))), some (.inr (.inr (some 1)))]) (st' := []) (w' := (SH, (am_cp (am_cp (u2 dt 18 0 (dt 1 0)) 2 19 0 0 192) 3 20 0 0 8))) rfl rfl (s_cpy (n0 := 8) (n1 := 8) rfl rfl ⟨⟨by omega, by omega, by omega⟩, by omega, by omega, by decide⟩) ?_
  refine go_toq PM4 (k := 9) (pc' := 59) (L' := [some (.inr (.inr (some 18))), some (.inr (.inr (some 1)))]) (st' := [.inl 256, .inl 0, .inr (.inr (some 21)), .inl 0, .inr (.inr (some 4))]) (w' := (SH, (am_cp (am_cp (u2 dt 18 0 (dt 1 0)) 2 19 0 0 192) 3 20 0 0 8))) rfl ?_
  have hI44 : InvC (am_cp (am_cp (am_cp (u2 dt 18 0 (dt 1 0)) 2 19 0 0 192) 3 20 0 0 8) 4 21 0 0 256) := InvC_cp hI30 (fun _ _ => rfl) (fun _ _ => rfl) (fun _ => rfl)
  have hF45 : Fr [18, 19, 20, 21, 22, 23, 24, 25, 26, 27, 28, 29, 30, 31, 32, 33, 34] dt (am_cp (am_cp (am_cp (u2 dt 18 0 (dt 1 0)) 2 19 0 0 192) 3 20 0 0 8) 4 21 0 0 256) := Fr_cp hF31 (by decide)
  have w46 : (am_cp (am_cp (am_cp (u2 dt 18 0 (dt 1 0)) 2 19 0 0 192) 3 20 0 0 8) 4 21 0 0 256) 18 0 = (am_cp (am_cp (u2 dt 18 0 (dt 1 0)) 2 19 0 0 192) 3 20 0 0 8) 18 0 := rfl
  have w47 : (am_cp (am_cp (am_cp (u2 dt 18 0 (dt 1 0)) 2 19 0 0 192) 3 20 0 0 8) 4 21 0 0 256) 24 3 = (am_cp (am_cp (u2 dt 18 0 (dt 1 0)) 2 19 0 0 192) 3 20 0 0 8) 24 3 := rfl
  have w48 : (am_cp (am_cp (am_cp (u2 dt 18 0 (dt 1 0)) 2 19 0 0 192) 3 20 0 0 8) 4 21 0 0 256) 27 3 = (am_cp (am_cp (u2 dt 18 0 (dt 1 0)) 2 19 0 0 192) 3 20 0 0 8) 27 3 := rfl
  have w49 : (am_cp (am_cp (am_cp (u2 dt 18 0 (dt 1 0)) 2 19 0 0 192) 3 20 0 0 8) 4 21 0 0 256) 29 3 = (am_cp (am_cp (u2 dt 18 0 (dt 1 0)) 2 19 0 0 192) 3 20 0 0 8) 29 3 := rfl
  have w50 : (am_cp (am_cp (am_cp (u2 dt 18 0 (dt 1 0)) 2 19 0 0 192) 3 20 0 0 8) 4 21 0 0 256) 31 3 = (am_cp (am_cp (u2 dt 18 0 (dt 1 0)) 2 19 0 0 192) 3 20 0 0 8) 31 3 := rfl
  have w51 : (am_cp (am_cp (am_cp (u2 dt 18 0 (dt 1 0)) 2 19 0 0 192) 3 20 0 0 8) 4 21 0 0 256) 33 3 = (am_cp (am_cp (u2 dt 18 0 (dt 1 0)) 2 19 0 0 192) 3 20 0 0 8) 33 3 := rfl
  have w52 : (am_cp (am_cp (am_cp (u2 dt 18 0 (dt 1 0)) 2 19 0 0 192) 3 20 0 0 8) 4 21 0 0 256) 1 0 = (am_cp (am_cp (u2 dt 18 0 (dt 1 0)) 2 19 0 0 192) 3 20 0 0 8) 1 0 := rfl
  have w53 : (am_cp (am_cp (am_cp (u2 dt 18 0 (dt 1 0)) 2 19 0 0 192) 3 20 0 0 8) 4 21 0 0 256) 7 3 = (am_cp (am_cp (u2 dt 18 0 (dt 1 0)) 2 19 0 0 192) 3 20 0 0 8) 7 3 := rfl
  have w54 : (am_cp (am_cp (am_cp (u2 dt 18 0 (dt 1 0)) 2 19 0 0 192) 3 20 0 0 8) 4 21 0 0 256) 10 3 = (am_cp (am_cp (u2 dt 18 0 (dt 1 0)) 2 19 0 0 192) 3 20 0 0 8) 10 3 := rfl
  have w55 : (am_cp (am_cp (am_cp (u2 dt 18 0 (dt 1 0)) 2 19 0 0 192) 3 20 0 0 8) 4 21 0 0 256) 12 3 = (am_cp (am_cp (u2 dt 18 0 (dt 1 0)) 2 19 0 0 192) 3 20 0 0 8) 12 3 := rfl
  have w56 : (am_cp (am_cp (am_cp (u2 dt 18 0 (dt 1 0)) 2 19 0 0 192) 3 20 0 0 8) 4 21 0 0 256) 14 3 = (am_cp (am_cp (u2 dt 18 0 (dt 1 0)) 2 19 0 0 192) 3 20 0 0 8) 14 3 := rfl
  have w57 : (am_cp (am_cp (am_cp (u2 dt 18 0 (dt 1 0)) 2 19 0 0 192) 3 20 0 0 8) 4 21 0 0 256) 16 3 = (am_cp (am_cp (u2 dt 18 0 (dt 1 0)) 2 19 0 0 192) 3 20 0 0 8) 16 3 := rfl
  refine go_cpyq PM4 (L' := [some (.inr (.inr (some 18))), some (.inr (.inr (some 1)))]) (st' := []) (w' := (SH, (am_cp (am_cp (am_cp (u2 dt 18 0 (dt 1 0)) 2 19 0 0 192) 3 20 0 0 8) 4 21 0 0 256))) rfl rfl (s_cpy (n0 := 256) (n1 := 256) rfl rfl ⟨⟨by omega, by omega, by omega⟩, by omega, by omega, by decide⟩) ?_
  refine go_toq PM4 (k := 9) (pc' := 77) (L' := [some (.inr (.inr (some 18))), some (.inr (.inr (some 1)))]) (st' := [.inl 4, .inl 0, .inr (.inr (some 22)), .inl 0, .inr (.inr (some 5))]) (w' := (SH, (am_cp (am_cp (am_cp (u2 dt 18 0 (dt 1 0)) 2 19 0 0 192) 3 20 0 0 8) 4 21 0 0 256))) rfl ?_
  have hI58 : InvC (am_cp (am_cp (am_cp (am_cp (u2 dt 18 0 (dt 1 0)) 2 19 0 0 192) 3 20 0 0 8) 4 21 0 0 256) 5 22 0 0 4) := InvC_cp hI44 (fun _ _ => rfl) (fun _ _ => rfl) (fun _ => rfl)
  have hF59 : Fr [18, 19, 20, 21, 22, 23, 24, 25, 26, 27, 28, 29, 30, 31, 32, 33, 34] dt (am_cp (am_cp (am_cp (am_cp (u2 dt 18 0 (dt 1 0)) 2 19 0 0 192) 3 20 0 0 8) 4 21 0 0 256) 5 22 0 0 4) := Fr_cp hF45 (by decide)
  have w60 : (am_cp (am_cp (am_cp (am_cp (u2 dt 18 0 (dt 1 0)) 2 19 0 0 192) 3 20 0 0 8) 4 21 0 0 256) 5 22 0 0 4) 18 0 = (am_cp (am_cp (am_cp (u2 dt 18 0 (dt 1 0)) 2 19 0 0 192) 3 20 0 0 8) 4 21 0 0 256) 18 0 := rfl
  have w61 : (am_cp (am_cp (am_cp (am_cp (u2 dt 18 0 (dt 1 0)) 2 19 0 0 192) 3 20 0 0 8) 4 21 0 0 256) 5 22 0 0 4) 24 3 = (am_cp (am_cp (am_cp (u2 dt 18 0 (dt 1 0)) 2 19 0 0 192) 3 20 0 0 8) 4 21 0 0 256) 24 3 := rfl
  have w62 : (am_cp (am_cp (am_cp (am_cp (u2 dt 18 0 (dt 1 0)) 2 19 0 0 192) 3 20 0 0 8) 4 21 0 0 256) 5 22 0 0 4) 27 3 = (am_cp (am_cp (am_cp (u2 dt 18 0 (dt 1 0)) 2 19 0 0 192) 3 20 0 0 8) 4 21 0 0 256) 27 3 := rfl
  have w63 : (am_cp (am_cp (am_cp (am_cp (u2 dt 18 0 (dt 1 0)) 2 19 0 0 192) 3 20 0 0 8) 4 21 0 0 256) 5 22 0 0 4) 29 3 = (am_cp (am_cp (am_cp (u2 dt 18 0 (dt 1 0)) 2 19 0 0 192) 3 20 0 0 8) 4 21 0 0 256) 29 3 := rfl
  have w64 : (am_cp (am_cp (am_cp (am_cp (u2 dt 18 0 (dt 1 0)) 2 19 0 0 192) 3 20 0 0 8) 4 21 0 0 256) 5 22 0 0 4) 31 3 = (am_cp (am_cp (am_cp (u2 dt 18 0 (dt 1 0)) 2 19 0 0 192) 3 20 0 0 8) 4 21 0 0 256) 31 3 := rfl
  have w65 : (am_cp (am_cp (am_cp (am_cp (u2 dt 18 0 (dt 1 0)) 2 19 0 0 192) 3 20 0 0 8) 4 21 0 0 256) 5 22 0 0 4) 33 3 = (am_cp (am_cp (am_cp (u2 dt 18 0 (dt 1 0)) 2 19 0 0 192) 3 20 0 0 8) 4 21 0 0 256) 33 3 := rfl
  have w66 : (am_cp (am_cp (am_cp (am_cp (u2 dt 18 0 (dt 1 0)) 2 19 0 0 192) 3 20 0 0 8) 4 21 0 0 256) 5 22 0 0 4) 1 0 = (am_cp (am_cp (am_cp (u2 dt 18 0 (dt 1 0)) 2 19 0 0 192) 3 20 0 0 8) 4 21 0 0 256) 1 0 := rfl
  have w67 : (am_cp (am_cp (am_cp (am_cp (u2 dt 18 0 (dt 1 0)) 2 19 0 0 192) 3 20 0 0 8) 4 21 0 0 256) 5 22 0 0 4) 7 3 = (am_cp (am_cp (am_cp (u2 dt 18 0 (dt 1 0)) 2 19 0 0 192) 3 20 0 0 8) 4 21 0 0 256) 7 3 := rfl
  have w68 : (am_cp (am_cp (am_cp (am_cp (u2 dt 18 0 (dt 1 0)) 2 19 0 0 192) 3 20 0 0 8) 4 21 0 0 256) 5 22 0 0 4) 10 3 = (am_cp (am_cp (am_cp (u2 dt 18 0 (dt 1 0)) 2 19 0 0 192) 3 20 0 0 8) 4 21 0 0 256) 10 3 := rfl
  have w69 : (am_cp (am_cp (am_cp (am_cp (u2 dt 18 0 (dt 1 0)) 2 19 0 0 192) 3 20 0 0 8) 4 21 0 0 256) 5 22 0 0 4) 12 3 = (am_cp (am_cp (am_cp (u2 dt 18 0 (dt 1 0)) 2 19 0 0 192) 3 20 0 0 8) 4 21 0 0 256) 12 3 := rfl
  have w70 : (am_cp (am_cp (am_cp (am_cp (u2 dt 18 0 (dt 1 0)) 2 19 0 0 192) 3 20 0 0 8) 4 21 0 0 256) 5 22 0 0 4) 14 3 = (am_cp (am_cp (am_cp (u2 dt 18 0 (dt 1 0)) 2 19 0 0 192) 3 20 0 0 8) 4 21 0 0 256) 14 3 := rfl
  have w71 : (am_cp (am_cp (am_cp (am_cp (u2 dt 18 0 (dt 1 0)) 2 19 0 0 192) 3 20 0 0 8) 4 21 0 0 256) 5 22 0 0 4) 16 3 = (am_cp (am_cp (am_cp (u2 dt 18 0 (dt 1 0)) 2 19 0 0 192) 3 20 0 0 8) 4 21 0 0 256) 16 3 := rfl
  refine go_cpyq PM4 (L' := [some (.inr (.inr (some 18))), some (.inr (.inr (some 1)))]) (st' := []) (w' := (SH, (am_cp (am_cp (am_cp (am_cp (u2 dt 18 0 (dt 1 0)) 2 19 0 0 192) 3 20 0 0 8) 4 21 0 0 256) 5 22 0 0 4))) rfl rfl (s_cpy (n0 := 4) (n1 := 4) rfl rfl ⟨⟨by omega, by omega, by omega⟩, by omega, by omega, by decide⟩) ?_
  refine go_toq PM4 (k := 9) (pc' := 95) (L' := [some (.inr (.inr (some 18))), some (.inr (.inr (some 1)))]) (st' := [.inl 2000, .inl 0, .inr (.inr (some 23)), .inl 0, .inr (.inr (some 6))]) (w' := (SH, (am_cp (am_cp (am_cp (am_cp (u2 dt 18 0 (dt 1 0)) 2 19 0 0 192) 3 20 0 0 8) 4 21 0 0 256) 5 22 0 0 4))) rfl ?_
  have hI72 : InvC (am_cp (am_cp (am_cp (am_cp (am_cp (u2 dt 18 0 (dt 1 0)) 2 19 0 0 192) 3 20 0 0 8) 4 21 0 0 256) 5 22 0 0 4) 6 23 0 0 2000) := InvC_cp hI58 (fun _ _ => rfl) (fun _ _ => rfl) (fun _ => rfl)
  have hF73 : Fr [18, 19, 20, 21, 22, 23, 24, 25, 26, 27, 28, 29, 30, 31, 32, 33, 34] dt (am_cp (am_cp (am_cp (am_cp (am_cp (u2 dt 18 0 (dt 1 0)) 2 19 0 0 192) 3 20 0 0 8) 4 21 0 0 256) 5 22 0 0 4) 6 23 0 0 2000) := Fr_cp hF59 (by decide)
  have w74 : (am_cp (am_cp (am_cp (am_cp (am_cp (u2 dt 18 0 (dt 1 0)) 2 19 0 0 192) 3 20 0 0 8) 4 21 0 0 256) 5 22 0 0 4) 6 23 0 0 2000) 18 0 = (am_cp (am_cp (am_cp (am_cp (u2 dt 18 0 (dt 1 0)) 2 19 0 0 192) 3 20 0 0 8) 4 21 0 0 256) 5 22 0 0 4) 18 0 := rfl
  have w75 : (am_cp (am_cp (am_cp (am_cp (am_cp (u2 dt 18 0 (dt 1 0)) 2 19 0 0 192) 3 20 0 0 8) 4 21 0 0 256) 5 22 0 0 4) 6 23 0 0 2000) 24 3 = (am_cp (am_cp (am_cp (am_cp (u2 dt 18 0 (dt 1 0)) 2 19 0 0 192) 3 20 0 0 8) 4 21 0 0 256) 5 22 0 0 4) 24 3 := rfl
  have w76 : (am_cp (am_cp (am_cp (am_cp (am_cp (u2 dt 18 0 (dt 1 0)) 2 19 0 0 192) 3 20 0 0 8) 4 21 0 0 256) 5 22 0 0 4) 6 23 0 0 2000) 27 3 = (am_cp (am_cp (am_cp (am_cp (u2 dt 18 0 (dt 1 0)) 2 19 0 0 192) 3 20 0 0 8) 4 21 0 0 256) 5 22 0 0 4) 27 3 := rfl
  have w77 : (am_cp (am_cp (am_cp (am_cp (am_cp (u2 dt 18 0 (dt 1 0)) 2 19 0 0 192) 3 20 0 0 8) 4 21 0 0 256) 5 22 0 0 4) 6 23 0 0 2000) 29 3 = (am_cp (am_cp (am_cp (am_cp (u2 dt 18 0 (dt 1 0)) 2 19 0 0 192) 3 20 0 0 8) 4 21 0 0 256) 5 22 0 0 4) 29 3 := rfl
  have w78 : (am_cp (am_cp (am_cp (am_cp (am_cp (u2 dt 18 0 (dt 1 0)) 2 19 0 0 192) 3 20 0 0 8) 4 21 0 0 256) 5 22 0 0 4) 6 23 0 0 2000) 31 3 = (am_cp (am_cp (am_cp (am_cp (u2 dt 18 0 (dt 1 0)) 2 19 0 0 192) 3 20 0 0 8) 4 21 0 0 256) 5 22 0 0 4) 31 3 := rfl
  have w79 : (am_cp (am_cp (am_cp (am_cp (am_cp (u2 dt 18 0 (dt 1 0)) 2 19 0 0 192) 3 20 0 0 8) 4 21 0 0 256) 5 22 0 0 4) 6 23 0 0 2000) 33 3 = (am_cp (am_cp (am_cp (am_cp (u2 dt 18 0 (dt 1 0)) 2 19 0 0 192) 3 20 0 0 8) 4 21 0 0 256) 5 22 0 0 4) 33 3 := rfl
  have w80 : (am_cp (am_cp (am_cp (am_cp (am_cp (u2 dt 18 0 (dt 1 0)) 2 19 0 0 192) 3 20 0 0 8) 4 21 0 0 256) 5 22 0 0 4) 6 23 0 0 2000) 1 0 = (am_cp (am_cp (am_cp (am_cp (u2 dt 18 0 (dt 1 0)) 2 19 0 0 192) 3 20 0 0 8) 4 21 0 0 256) 5 22 0 0 4) 1 0 := rfl
  have w81 : (am_cp (am_cp (am_cp (am_cp (am_cp (u2 dt 18 0 (dt 1 0)) 2 19 0 0 192) 3 20 0 0 8) 4 21 0 0 256) 5 22 0 0 4) 6 23 0 0 2000) 7 3 = (am_cp (am_cp (am_cp (am_cp (u2 dt 18 0 (dt 1 0)) 2 19 0 0 192) 3 20 0 0 8) 4 21 0 0 256) 5 22 0 0 4) 7 3 := rfl
  have w82 : (am_cp (am_cp (am_cp (am_cp (am_cp (u2 dt 18 0 (dt 1 0)) 2 19 0 0 192) 3 20 0 0 8) 4 21 0 0 256) 5 22 0 0 4) 6 23 0 0 2000) 10 3 = (am_cp (am_cp (am_cp (am_cp (u2 dt 18 0 (dt 1 0)) 2 19 0 0 192) 3 20 0 0 8) 4 21 0 0 256) 5 22 0 0 4) 10 3 := rfl
  have w83 : (am_cp (am_cp (am_cp (am_cp (am_cp (u2 dt 18 0 (dt 1 0)) 2 19 0 0 192) 3 20 0 0 8) 4 21 0 0 256) 5 22 0 0 4) 6 23 0 0 2000) 12 3 = (am_cp (am_cp (am_cp (am_cp (u2 dt 18 0 (dt 1 0)) 2 19 0 0 192) 3 20 0 0 8) 4 21 0 0 256) 5 22 0 0 4) 12 3 := rfl
  have w84 : (am_cp (am_cp (am_cp (am_cp (am_cp (u2 dt 18 0 (dt 1 0)) 2 19 0 0 192) 3 20 0 0 8) 4 21 0 0 256) 5 22 0 0 4) 6 23 0 0 2000) 14 3 = (am_cp (am_cp (am_cp (am_cp (u2 dt 18 0 (dt 1 0)) 2 19 0 0 192) 3 20 0 0 8) 4 21 0 0 256) 5 22 0 0 4) 14 3 := rfl
  have w85 : (am_cp (am_cp (am_cp (am_cp (am_cp (u2 dt 18 0 (dt 1 0)) 2 19 0 0 192) 3 20 0 0 8) 4 21 0 0 256) 5 22 0 0 4) 6 23 0 0 2000) 16 3 = (am_cp (am_cp (am_cp (am_cp (u2 dt 18 0 (dt 1 0)) 2 19 0 0 192) 3 20 0 0 8) 4 21 0 0 256) 5 22 0 0 4) 16 3 := rfl
  refine go_cpyq PM4 (L' := [some (.inr (.inr (some 18))), some (.inr (.inr (some 1)))]) (st' := []) (w' := (SH, (am_cp (am_cp (am_cp (am_cp (am_cp (u2 dt 18 0 (dt 1 0)) 2 19 0 0 192) 3 20 0 0 8) 4 21 0 0 256) 5 22 0 0 4) 6 23 0 0 2000))) rfl rfl (s_cpy (n0 := 2000) (n1 := 2000) rfl rfl ⟨⟨by omega, by omega, by omega⟩, by omega, by omega, by decide⟩) ?_
  refine go_toq PM4 (k := 9) (pc' := 113) (L' := [some (.inr (.inr (some 18))), some (.inr (.inr (some 1)))]) (st' := [.inl 132, .inl 0, .inr (.inr (some 26)), .inl 0, .inr (.inr (some 9))]) (w' := (SH, (am_cp (am_cp (am_cp (am_cp (am_cp (u2 dt 18 0 (dt 1 0)) 2 19 0 0 192) 3 20 0 0 8) 4 21 0 0 256) 5 22 0 0 4) 6 23 0 0 2000))) rfl ?_
  have hI86 : InvC (am_cp (am_cp (am_cp (am_cp (am_cp (am_cp (u2 dt 18 0 (dt 1 0)) 2 19 0 0 192) 3 20 0 0 8) 4 21 0 0 256) 5 22 0 0 4) 6 23 0 0 2000) 9 26 0 0 132) := InvC_cp hI72 (fun _ _ => rfl) (fun _ _ => rfl) (fun _ => rfl)
  have hF87 : Fr [18, 19, 20, 21, 22, 23, 24, 25, 26, 27, 28, 29, 30, 31, 32, 33, 34] dt (am_cp (am_cp (am_cp (am_cp (am_cp (am_cp (u2 dt 18 0 (dt 1 0)) 2 19 0 0 192) 3 20 0 0 8) 4 21 0 0 256) 5 22 0 0 4) 6 23 0 0 2000) 9 26 0 0 132) := Fr_cp hF73 (by decide)
  have w88 : (am_cp (am_cp (am_cp (am_cp (am_cp (am_cp (u2 dt 18 0 (dt 1 0)) 2 19 0 0 192) 3 20 0 0 8) 4 21 0 0 256) 5 22 0 0 4) 6 23 0 0 2000) 9 26 0 0 132) 18 0 = (am_cp (am_cp (am_cp (am_cp (am_cp (u2 dt 18 0 (dt 1 0)) 2 19 0 0 192) 3 20 0 0 8) 4 21 0 0 256) 5 22 0 0 4) 6 23 0 0 2000) 18 0 := rfl
  have w89 : (am_cp (am_cp (am_cp (am_cp (am_cp (am_cp (u2 dt 18 0 (dt 1 0)) 2 19 0 0 192) 3 20 0 0 8) 4 21 0 0 256) 5 22 0 0 4) 6 23 0 0 2000) 9 26 0 0 132) 24 3 = (am_cp (am_cp (am_cp (am_cp (am_cp (u2 dt 18 0 (dt 1 0)) 2 19 0 0 192) 3 20 0 0 8) 4 21 0 0 256) 5 22 0 0 4) 6 23 0 0 2000) 24 3 := rfl
  have w90 : (am_cp (am_cp (am_cp (am_cp (am_cp (am_cp (u2 dt 18 0 (dt 1 0)) 2 19 0 0 192) 3 20 0 0 8) 4 21 0 0 256) 5 22 0 0 4) 6 23 0 0 2000) 9 26 0 0 132) 27 3 = (am_cp (am_cp (am_cp (am_cp (am_cp (u2 dt 18 0 (dt 1 0)) 2 19 0 0 192) 3 20 0 0 8) 4 21 0 0 256) 5 22 0 0 4) 6 23 0 0 2000) 27 3 := rfl
  have w91 : (am_cp (am_cp (am_cp (am_cp (am_cp (am_cp (u2 dt 18 0 (dt 1 0)) 2 19 0 0 192) 3 20 0 0 8) 4 21 0 0 256) 5 22 0 0 4) 6 23 0 0 2000) 9 26 0 0 132) 29 3 = (am_cp (am_cp (am_cp (am_cp (am_cp (u2 dt 18 0 (dt 1 0)) 2 19 0 0 192) 3 20 0 0 8) 4 21 0 0 256) 5 22 0 0 4) 6 23 0 0 2000) 29 3 := rfl
  have w92 : (am_cp (am_cp (am_cp (am_cp (am_cp (am_cp (u2 dt 18 0 (dt 1 0)) 2 19 0 0 192) 3 20 0 0 8) 4 21 0 0 256) 5 22 0 0 4) 6 23 0 0 2000) 9 26 0 0 132) 31 3 = (am_cp (am_cp (am_cp (am_cp (am_cp (u2 dt 18 0 (dt 1 0)) 2 19 0 0 192) 3 20 0 0 8) 4 21 0 0 256) 5 22 0 0 4) 6 23 0 0 2000) 31 3 := rfl
  have w93 : (am_cp (am_cp (am_cp (am_cp (am_cp (am_cp (u2 dt 18 0 (dt 1 0)) 2 19 0 0 192) 3 20 0 0 8) 4 21 0 0 256) 5 22 0 0 4) 6 23 0 0 2000) 9 26 0 0 132) 33 3 = (am_cp (am_cp (am_cp (am_cp (am_cp (u2 dt 18 0 (dt 1 0)) 2 19 0 0 192) 3 20 0 0 8) 4 21 0 0 256) 5 22 0 0 4) 6 23 0 0 2000) 33 3 := rfl
  have w94 : (am_cp (am_cp (am_cp (am_cp (am_cp (am_cp (u2 dt 18 0 (dt 1 0)) 2 19 0 0 192) 3 20 0 0 8) 4 21 0 0 256) 5 22 0 0 4) 6 23 0 0 2000) 9 26 0 0 132) 1 0 = (am_cp (am_cp (am_cp (am_cp (am_cp (u2 dt 18 0 (dt 1 0)) 2 19 0 0 192) 3 20 0 0 8) 4 21 0 0 256) 5 22 0 0 4) 6 23 0 0 2000) 1 0 := rfl
  have w95 : (am_cp (am_cp (am_cp (am_cp (am_cp (am_cp (u2 dt 18 0 (dt 1 0)) 2 19 0 0 192) 3 20 0 0 8) 4 21 0 0 256) 5 22 0 0 4) 6 23 0 0 2000) 9 26 0 0 132) 7 3 = (am_cp (am_cp (am_cp (am_cp (am_cp (u2 dt 18 0 (dt 1 0)) 2 19 0 0 192) 3 20 0 0 8) 4 21 0 0 256) 5 22 0 0 4) 6 23 0 0 2000) 7 3 := rfl
  have w96 : (am_cp (am_cp (am_cp (am_cp (am_cp (am_cp (u2 dt 18 0 (dt 1 0)) 2 19 0 0 192) 3 20 0 0 8) 4 21 0 0 256) 5 22 0 0 4) 6 23 0 0 2000) 9 26 0 0 132) 10 3 = (am_cp (am_cp (am_cp (am_cp (am_cp (u2 dt 18 0 (dt 1 0)) 2 19 0 0 192) 3 20 0 0 8) 4 21 0 0 256) 5 22 0 0 4) 6 23 0 0 2000) 10 3 := rfl
  have w97 : (am_cp (am_cp (am_cp (am_cp (am_cp (am_cp (u2 dt 18 0 (dt 1 0)) 2 19 0 0 192) 3 20 0 0 8) 4 21 0 0 256) 5 22 0 0 4) 6 23 0 0 2000) 9 26 0 0 132) 12 3 = (am_cp (am_cp (am_cp (am_cp (am_cp (u2 dt 18 0 (dt 1 0)) 2 19 0 0 192) 3 20 0 0 8) 4 21 0 0 256) 5 22 0 0 4) 6 23 0 0 2000) 12 3 := rfl
  have w98 : (am_cp (am_cp (am_cp (am_cp (am_cp (am_cp (u2 dt 18 0 (dt 1 0)) 2 19 0 0 192) 3 20 0 0 8) 4 21 0 0 256) 5 22 0 0 4) 6 23 0 0 2000) 9 26 0 0 132) 14 3 = (am_cp (am_cp (am_cp (am_cp (am_cp (u2 dt 18 0 (dt 1 0)) 2 19 0 0 192) 3 20 0 0 8) 4 21 0 0 256) 5 22 0 0 4) 6 23 0 0 2000) 14 3 := rfl
  have w99 : (am_cp (am_cp (am_cp (am_cp (am_cp (am_cp (u2 dt 18 0 (dt 1 0)) 2 19 0 0 192) 3 20 0 0 8) 4 21 0 0 256) 5 22 0 0 4) 6 23 0 0 2000) 9 26 0 0 132) 16 3 = (am_cp (am_cp (am_cp (am_cp (am_cp (u2 dt 18 0 (dt 1 0)) 2 19 0 0 192) 3 20 0 0 8) 4 21 0 0 256) 5 22 0 0 4) 6 23 0 0 2000) 16 3 := rfl
  refine go_cpyq PM4 (L' := [some (.inr (.inr (some 18))), some (.inr (.inr (some 1)))]) (st' := []) (w' := (SH, (am_cp (am_cp (am_cp (am_cp (am_cp (am_cp (u2 dt 18 0 (dt 1 0)) 2 19 0 0 192) 3 20 0 0 8) 4 21 0 0 256) 5 22 0 0 4) 6 23 0 0 2000) 9 26 0 0 132))) rfl rfl (s_cpy (n0 := 132) (n1 := 132) rfl rfl ⟨⟨by omega, by omega, by omega⟩, by omega, by omega, by decide⟩) ?_
  refine go_toq PM4 (k := 4) (pc' := 124) (L' := [some (.inr (.inr (some 18))), some (.inr (.inr (some 1)))]) (st' := [.inr (.inr (some 7)), .inr (.inr (some 24))]) (w' := (SH, (am_cp (am_cp (am_cp (am_cp (am_cp (am_cp (u2 dt 18 0 (dt 1 0)) 2 19 0 0 192) 3 20 0 0 8) 4 21 0 0 256) 5 22 0 0 4) 6 23 0 0 2000) 9 26 0 0 132))) rfl ?_
  refine go_callq PM4 PM42 (Q' := _) rfl rfl rfl rfl (sp_X2_copyFrom_24 L xs sio (d + 0) (am_cp (am_cp (am_cp (am_cp (am_cp (am_cp (u2 dt 18 0 (dt 1 0)) 2 19 0 0 192) 3 20 0 0 8) 4 21 0 0 256) 5 22 0 0 4) 6 23 0 0 2000) 9 26 0 0 132) hI86   ) ?_
  rintro _ _ ⟨dt101, rfl, hI102, hF103, h100⟩
  refine ⟨rfl, ?_⟩
  have hF104 : Fr [18, 19, 20, 21, 22, 23, 24, 25, 26, 27, 28, 29, 30, 31, 32, 33, 34] dt dt101 := Fr_tr hF87 hF103 (by decide)
  have w105 : dt101 18 0 = (am_cp (am_cp (am_cp (am_cp (am_cp (am_cp (u2 dt 18 0 (dt 1 0)) 2 19 0 0 192) 3 20 0 0 8) 4 21 0 0 256) 5 22 0 0 4) 6 23 0 0 2000) 9 26 0 0 132) 18 0 := hF103 18 (by decide) 0
  have w106 : dt101 27 3 = (am_cp (am_cp (am_cp (am_cp (am_cp (am_cp (u2 dt 18 0 (dt 1 0)) 2 19 0 0 192) 3 20 0 0 8) 4 21 0 0 256) 5 22 0 0 4) 6 23 0 0 2000) 9 26 0 0 132) 27 3 := hF103 27 (by decide) 3
  have w107 : dt101 29 3 = (am_cp (am_cp (am_cp (am_cp (am_cp (am_cp (u2 dt 18 0 (dt 1 0)) 2 19 0 0 192) 3 20 0 0 8) 4 21 0 0 256) 5 22 0 0 4) 6 23 0 0 2000) 9 26 0 0 132) 29 3 := hF103 29 (by decide) 3
  have w108 : dt101 31 3 = (am_cp (am_cp (am_cp (am_cp (am_cp (am_cp (u2 dt 18 0 (dt 1 0)) 2 19 0 0 192) 3 20 0 0 8) 4 21 0 0 256) 5 22 0 0 4) 6 23 0 0 2000) 9 26 0 0 132) 31 3 := hF103 31 (by decide) 3
  have w109 : dt101 33 3 = (am_cp (am_cp (am_cp (am_cp (am_cp (am_cp (u2 dt 18 0 (dt 1 0)) 2 19 0 0 192) 3 20 0 0 8) 4 21 0 0 256) 5 22 0 0 4) 6 23 0 0 2000) 9 26 0 0 132) 33 3 := hF103 33 (by decide) 3
  have w110 : dt101 1 0 = (am_cp (am_cp (am_cp (am_cp (am_cp (am_cp (u2 dt 18 0 (dt 1 0)) 2 19 0 0 192) 3 20 0 0 8) 4 21 0 0 256) 5 22 0 0 4) 6 23 0 0 2000) 9 26 0 0 132) 1 0 := hF103 1 (by decide) 0
  have w111 : dt101 7 3 = (am_cp (am_cp (am_cp (am_cp (am_cp (am_cp (u2 dt 18 0 (dt 1 0)) 2 19 0 0 192) 3 20 0 0 8) 4 21 0 0 256) 5 22 0 0 4) 6 23 0 0 2000) 9 26 0 0 132) 7 3 := hF103 7 (by decide) 3
  have w112 : dt101 10 3 = (am_cp (am_cp (am_cp (am_cp (am_cp (am_cp (u2 dt 18 0 (dt 1 0)) 2 19 0 0 192) 3 20 0 0 8) 4 21 0 0 256) 5 22 0 0 4) 6 23 0 0 2000) 9 26 0 0 132) 10 3 := hF103 10 (by decide) 3
  have w113 : dt101 12 3 = (am_cp (am_cp (am_cp (am_cp (am_cp (am_cp (u2 dt 18 0 (dt 1 0)) 2 19 0 0 192) 3 20 0 0 8) 4 21 0 0 256) 5 22 0 0 4) 6 23 0 0 2000) 9 26 0 0 132) 12 3 := hF103 12 (by decide) 3
  have w114 : dt101 14 3 = (am_cp (am_cp (am_cp (am_cp (am_cp (am_cp (u2 dt 18 0 (dt 1 0)) 2 19 0 0 192) 3 20 0 0 8) 4 21 0 0 256) 5 22 0 0 4) 6 23 0 0 2000) 9 26 0 0 132) 14 3 := hF103 14 (by decide) 3
  have w115 : dt101 16 3 = (am_cp (am_cp (am_cp (am_cp (am_cp (am_cp (u2 dt 18 0 (dt 1 0)) 2 19 0 0 192) 3 20 0 0 8) 4 21 0 0 256) 5 22 0 0 4) 6 23 0 0 2000) 9 26 0 0 132) 16 3 := hF103 16 (by decide) 3
  rcases h100 with ⟨rfl, h100⟩
  refine go_toq PM4 (k := 4) (pc' := 135) (L' := [some (.inr (.inr (some 18))), some (.inr (.inr (some 1)))]) (st' := [.inr (.inr (some 10)), .inr (.inr (some 27))]) (w' := (SH, dt101)) rfl ?_
  refine go_callq PM4 PM42 (Q' := _) rfl rfl rfl rfl (sp_X2_copyFrom_27 L xs sio (d + 0) dt101 hI102   ) ?_
  rintro _ _ ⟨dt117, rfl, hI118, hF119, h116⟩
  refine ⟨rfl, ?_⟩
  have hF120 : Fr [18, 19, 20, 21, 22, 23, 24, 25, 26, 27, 28, 29, 30, 31, 32, 33, 34] dt dt117 := Fr_tr hF104 hF119 (by decide)
  have w121 : dt117 18 0 = dt101 18 0 := hF119 18 (by decide) 0
  have w122 : dt117 24 3 = dt101 24 3 := hF119 24 (by decide) 3
  have w123 : dt117 29 3 = dt101 29 3 := hF119 29 (by decide) 3
  have w124 : dt117 31 3 = dt101 31 3 := hF119 31 (by decide) 3
  have w125 : dt117 33 3 = dt101 33 3 := hF119 33 (by decide) 3
  have w126 : dt117 1 0 = dt101 1 0 := hF119 1 (by decide) 0
  have w127 : dt117 7 3 = dt101 7 3 := hF119 7 (by decide) 3
  have w128 : dt117 10 3 = dt101 10 3 := hF119 10 (by decide) 3
  have w129 : dt117 12 3 = dt101 12 3 := hF119 12 (by decide) 3
  have w130 : dt117 14 3 = dt101 14 3 := hF119 14 (by decide) 3
  have w131 : dt117 16 3 = dt101 16 3 := hF119 16 (by decide) 3
  rcases h116 with ⟨rfl, h116⟩
  refine go_toq PM4 (k := 4) (pc' := 146) (L' := [some (.inr (.inr (some 18))), some (.inr (.inr (some 1)))]) (st' := [.inr (.inr (some 12)), .inr (.inr (some 29))]) (w' := (SH, dt117)) rfl ?_
  refine go_callq PM4 PM42 (Q' := _) rfl rfl rfl rfl (sp_X2_copyFrom_29 L xs sio (d + 0) dt117 hI118   ) ?_
  rintro _ _ ⟨dt133, rfl, hI134, hF135, h132⟩
  refine ⟨rfl, ?_⟩
  have hF136 : Fr [18, 19, 20, 21, 22, 23, 24, 25, 26, 27, 28, 29, 30, 31, 32, 33, 34] dt dt133 := Fr_tr hF120 hF135 (by decide)
  have w137 : dt133 18 0 = dt117 18 0 := hF135 18 (by decide) 0
  have w138 : dt133 24 3 = dt117 24 3 := hF135 24 (by decide) 3
  have w139 : dt133 27 3 = dt117 27 3 := hF135 27 (by decide) 3
  have w140 : dt133 31 3 = dt117 31 3 := hF135 31 (by decide) 3
  have w141 : dt133 33 3 = dt117 33 3 := hF135 33 (by decide) 3
  have w142 : dt133 1 0 = dt117 1 0 := hF135 1 (by decide) 0
  have w143 : dt133 7 3 = dt117 7 3 := hF135 7 (by decide) 3
  have w144 : dt133 10 3 = dt117 10 3 := hF135 10 (by decide) 3
  have w145 : dt133 12 3 = dt117 12 3 := hF135 12 (by decide) 3
  have w146 : dt133 14 3 = dt117 14 3 := hF135 14 (by decide) 3
  have w147 : dt133 16 3 = dt117 16 3 := hF135 16 (by decide) 3
  rcases h132 with ⟨rfl, h132⟩
  refine go_toq PM4 (k := 4) (pc' := 157) (L' := [some (.inr (.inr (some 18))), some (.inr (.inr (some 1)))]) (st' := [.inr (.inr (some 14)), .inr (.inr (some 31))]) (w' := (SH, dt133)) rfl ?_
  refine go_callq PM4 PM42 (Q' := _) rfl rfl rfl rfl (sp_X2_copyFrom_31f L xs sio (d + 0) dt133 hI134   ) ?_
  rintro _ _ ⟨dt149, rfl, hI150, hF151, h148⟩
  refine ⟨rfl, ?_⟩
  have hF152 : Fr [18, 19, 20, 21, 22, 23, 24, 25, 26, 27, 28, 29, 30, 31, 32, 33, 34] dt dt149 := Fr_tr hF136 hF151 (by decide)
  have w153 : dt149 18 0 = dt133 18 0 := hF151 18 (by decide) 0
  have w154 : dt149 24 3 = dt133 24 3 := hF151 24 (by decide) 3
  have w155 : dt149 27 3 = dt133 27 3 := hF151 27 (by decide) 3
  have w156 : dt149 29 3 = dt133 29 3 := hF151 29 (by decide) 3
  have w157 : dt149 33 3 = dt133 33 3 := hF151 33 (by decide) 3
  have w158 : dt149 1 0 = dt133 1 0 := hF151 1 (by decide) 0
  have w159 : dt149 7 3 = dt133 7 3 := hF151 7 (by decide) 3
  have w160 : dt149 10 3 = dt133 10 3 := hF151 10 (by decide) 3
  have w161 : dt149 12 3 = dt133 12 3 := hF151 12 (by decide) 3
  have w162 : dt149 14 3 = dt133 14 3 := hF151 14 (by decide) 3
  have w163 : dt149 16 3 = dt133 16 3 := hF151 16 (by decide) 3
  rcases h148 with ⟨rfl, h148⟩
  obtain ⟨h148_0, h148_1⟩ := h148
  have T164 : ∀ j : Nat, j < 80 → dt149 32 j = dt 15 j := fun j hj => (h148_1 j hj).trans (((hF151 15 (by decide) j).symm).trans (hF152 15 (by decide) j))
  refine go_toq PM4 (k := 4) (pc' := 168) (L' := [some (.inr (.inr (some 18))), some (.inr (.inr (some 1)))]) (st' := [.inr (.inr (some 16)), .inr (.inr (some 33))]) (w' := (SH, dt149)) rfl ?_
  refine go_callq PM4 PM42 (Q' := _) rfl rfl rfl rfl (sp_X2_copyFrom_33f L xs sio (d + 0) dt149 hI150   ) ?_
  rintro _ _ ⟨dt166, rfl, hI167, hF168, h165⟩
  refine ⟨rfl, ?_⟩
  have hF169 : Fr [18, 19, 20, 21, 22, 23, 24, 25, 26, 27, 28, 29, 30, 31, 32, 33, 34] dt dt166 := Fr_tr hF152 hF168 (by decide)
  have w170 : dt166 18 0 = dt149 18 0 := hF168 18 (by decide) 0
  have w171 : dt166 24 3 = dt149 24 3 := hF168 24 (by decide) 3
  have w172 : dt166 27 3 = dt149 27 3 := hF168 27 (by decide) 3
  have w173 : dt166 29 3 = dt149 29 3 := hF168 29 (by decide) 3
  have w174 : dt166 31 3 = dt149 31 3 := hF168 31 (by decide) 3
  have w175 : dt166 1 0 = dt149 1 0 := hF168 1 (by decide) 0
  have w176 : dt166 7 3 = dt149 7 3 := hF168 7 (by decide) 3
  have w177 : dt166 10 3 = dt149 10 3 := hF168 10 (by decide) 3
  have w178 : dt166 12 3 = dt149 12 3 := hF168 12 (by decide) 3
  have w179 : dt166 14 3 = dt149 14 3 := hF168 14 (by decide) 3
  have w180 : dt166 16 3 = dt149 16 3 := hF168 16 (by decide) 3
  rcases h165 with ⟨rfl, h165⟩
  obtain ⟨h165_0, h165_1⟩ := h165
  have T181 : ∀ j : Nat, j < 80 → dt166 32 j = dt 15 j := fun j hj => (hF168 32 (by decide) j).trans (T164 j hj)
  have T182 : ∀ j : Nat, j < 40 → dt166 34 j = dt 17 j := fun j hj => (h165_1 j hj).trans (((hF168 17 (by decide) j).symm).trans (hF169 17 (by decide) j))
  refine go_retq PM4 (k := 0) (r := none) (w1 := (SH, dt166)) rfl ?_
  exact ⟨dt166, rfl, hI167, hF169, ⟨rfl, ⟨by first | exact True.intro | with_reducible assumption | rfl | omega | trivial, by first | exact True.intro | with_reducible assumption | rfl | omega | trivial, by first | exact True.intro | with_reducible assumption | rfl | omega | trivial, by first | exact True.intro | with_reducible assumption | rfl | omega | trivial, by first | exact True.intro | with_reducible assumption | rfl | omega | trivial, by first | exact True.intro | with_reducible assumption | rfl | omega | trivial, by assumption, by assumption⟩⟩⟩
theorem sp_X5_image_1f (L : Nat) (xs : Nat → Int32) (sio : Option Nat) (d : Nat) (dt : Nat → Nat → Int) (hI : InvC dt)    : GO (am_XX L xs sio) (d + 3) 98 0 [some (.inr (.inr (some 0))), some (.inl 1)] [] (SH, dt) (fun r w2 => ∃ dt2 : Nat → Nat → Int, w2 = (SH, dt2) ∧ InvC dt2 ∧ Fr [0, 18, 19, 20, 21, 22, 23, 24, 25, 26, 27, 28, 29, 30, 31, 32, 33, 34] dt dt2 ∧ ((∃ v : Int, r = some (.inl v) ∧ (0 ≤ v ∧ v ≤ 1) ∧ (v = 1) ∧ (dt2 0 2 = 1) ∧ (dt2 1 0 = dt 1 0) ∧ (dt2 7 3 = dt 7 3) ∧ (dt2 10 3 = dt 10 3) ∧ (dt2 12 3 = dt 12 3) ∧ (dt2 14 3 = dt 14 3) ∧ (dt2 16 3 = dt 16 3) ∧ (dt2 18 0 = dt 1 0) ∧ (dt2 24 3 = dt 7 3) ∧ (dt2 27 3 = dt 10 3) ∧ (dt2 29 3 = dt 12 3) ∧ (dt2 31 3 = dt 14 3) ∧ (dt2 33 3 = dt 16 3) ∧ (∀ j : Nat, j < 80 → dt2 15 j = dt 15 j) ∧ (∀ j : Nat, j < 40 → dt2 17 j = dt 17 j) ∧ (∀ j : Nat, j < 80 → dt2 32 j = dt 15 j) ∧ (∀ j : Nat, j < 40 → dt2 34 j = dt 17 j)))) := by
  have hF : Fr [0, 18, 19, 20, 21, 22, 23, 24, 25, 26, 27, 28, 29, 30, 31, 32, 33, 34] dt dt := Fr_refl
  have r1 : 0 ≤ dt 0 2 ∧ dt 0 2 ≤ 1 := InvC_get hI 0 2 rfl rfl
  refine go_toq PM98 (k := 6) (pc' := 12) (L' := [some (.inr (.inr (some 0))), some (.inl 1)]) (st' := [.inr (.inr (some 1)), .inr (.inr (some 18))]) (w' := (SH, dt)) rfl ?_
  refine go_callq PM98 PM4 (Q' := _) rfl rfl rfl rfl (sp_X0_copyFrom_18f L xs sio (d + 0) dt hI   ) ?_
  rintro _ _ ⟨dt3, rfl, hI4, hF5, h2⟩
  refine ⟨rfl, ?_⟩
  have hF6 : Fr [0, 18, 19, 20, 21, 22, 23, 24, 25, 26, 27, 28, 29, 30, 31, 32, 33, 34] dt dt3 := Fr_tr hF hF5 (by decide)
  have w7 : dt3 0 2 = dt 0 2 := hF5 0 (by decide) 2
  have w8 : dt3 1 0 = dt 1 0 := hF5 1 (by decide) 0
  have w9 : dt3 7 3 = dt 7 3 := hF5 7 (by decide) 3
  have w10 : dt3 10 3 = dt 10 3 := hF5 10 (by decide) 3
  have w11 : dt3 12 3 = dt 12 3 := hF5 12 (by decide) 3
  have w12 : dt3 14 3 = dt 14 3 := hF5 14 (by decide) 3
  have w13 : dt3 16 3 = dt 16 3 := hF5 16 (by decide) 3
  rcases h2 with ⟨rfl, h2⟩
  obtain ⟨h2_0, h2_1, h2_2, h2_3, h2_4, h2_5, h2_6, h2_7⟩ := h2
  refine go_toq PM98 (k := 2) (pc' := 17) (L' := [some (.inr (.inr (some 0))), some (.inl 1)]) (st' := [.inl 1, .inr (.inr (some 0))]) (w' := (SH, dt3)) rfl ?_
  have hI14 : InvC (u2 dt3 0 2 1) := InvC_u2 hI4 (lo := 0) (hi := 1) rfl rfl rfl (by decide) (by decide)
  have hF15 : Fr [0, 18, 19, 20, 21, 22, 23, 24, 25, 26, 27, 28, 29, 30, 31, 32, 33, 34] dt (u2 dt3 0 2 1) := Fr_u2 hF6 (by decide)
  have w16 : (u2 dt3 0 2 1) 0 2 = 1 := rfl
  have w17 : (u2 dt3 0 2 1) 1 0 = dt3 1 0 := rfl
  have w18 : (u2 dt3 0 2 1) 7 3 = dt3 7 3 := rfl
  have w19 : (u2 dt3 0 2 1) 10 3 = dt3 10 3 := rfl
  have w20 : (u2 dt3 0 2 1) 12 3 = dt3 12 3 := rfl
  have w21 : (u2 dt3 0 2 1) 14 3 = dt3 14 3 := rfl
  have w22 : (u2 dt3 0 2 1) 16 3 = dt3 16 3 := rfl
  have w23 : (u2 dt3 0 2 1) 18 0 = dt3 18 0 := rfl
  have w24 : (u2 dt3 0 2 1) 24 3 = dt3 24 3 := rfl
  have w25 : (u2 dt3 0 2 1) 27 3 = dt3 27 3 := rfl
  have w26 : (u2 dt3 0 2 1) 29 3 = dt3 29 3 := rfl
  have w27 : (u2 dt3 0 2 1) 31 3 = dt3 31 3 := rfl
  have w28 : (u2 dt3 0 2 1) 33 3 = dt3 33 3 := rfl
  refine go_smpq PM98 (L' := [some (.inr (.inr (some 0))), some (.inl 1)]) (st' := []) (w' := (SH, (u2 dt3 0 2 1))) rfl rfl (s_pfz rfl rfl rfl rfl (by omega)) ?_
  refine go_retq PM98 (k := 3) (r := some (.inl 1)) (w1 := (SH, (u2 dt3 0 2 1))) rfl ?_
  exact ⟨(u2 dt3 0 2 1), rfl, hI14, hF15, ⟨_, rfl, ⟨by decide, by decide⟩, ⟨by first | exact True.intro | with_reducible assumption | rfl | omega | trivial, by first | exact True.intro | with_reducible assumption | rfl | omega | trivial, by first | exact True.intro | with_reducible assumption | rfl | omega | trivial, by first | exact True.intro | with_reducible assumption | rfl | omega | trivial, by first | exact True.intro | with_reducible assumption | rfl | omega | trivial, by first | exact True.intro | with_reducible assumption | rfl | omega | trivial, by first | exact True.intro | with_reducible assumption | rfl | omega | trivial, by first | exact True.intro | with_reducible assumption | rfl | omega | trivial, by first | exact True.intro | with_reducible assumption | rfl | omega | trivial, by first | exact True.intro | with_reducible assumption | rfl | omega | trivial, by first | exact True.intro | with_reducible assumption | rfl | omega | trivial, by first | exact True.intro | with_reducible assumption | rfl | omega | trivial, by first | exact True.intro | with_reducible assumption | rfl | omega | trivial, by first | exact True.intro | with_reducible assumption | rfl | omega | trivial, by first | exact fun _ _ => rfl | assumption | exact fun j _ => hF5 15 (by decide) j, by first | exact fun _ _ => rfl | assumption | exact fun j _ => hF5 17 (by decide) j, by first | exact fun _ _ => rfl | assumption | exact fun j _ => hF5 32 (by decide) j, by first | exact fun _ _ => rfl | assumption | exact fun j _ => hF5 34 (by decide) j⟩⟩⟩
theorem sp_X5_image_0f (L : Nat) (xs : Nat → Int32) (sio : Option Nat) (d : Nat) (dt : Nat → Nat → Int) (hI : InvC dt)    : GO (am_XX L xs sio) (d + 3) 98 0 [some (.inr (.inr (some 0))), some (.inl 0)] [] (SH, dt) (fun r w2 => ∃ dt2 : Nat → Nat → Int, w2 = (SH, dt2) ∧ InvC dt2 ∧ Fr [1, 2, 3, 4, 5, 6, 7, 8, 9, 10, 11, 12, 13, 14, 15, 16, 17] dt dt2 ∧ ((∃ v : Int, r = some (.inl v) ∧ (0 ≤ v ∧ v ≤ 1) ∧ (v = 1) ∧ (dt 0 2 = 1) ∧ (dt2 0 2 = 1) ∧ (dt2 1 0 = dt 18 0) ∧ (dt2 7 3 = dt 24 3) ∧ (dt2 10 3 = dt 27 3) ∧ (dt2 12 3 = dt 29 3) ∧ (dt2 14 3 = dt 31 3) ∧ (dt2 16 3 = dt 33 3) ∧ (dt2 18 0 = dt 18 0) ∧ (dt2 24 3 = dt 24 3) ∧ (dt2 27 3 = dt 27 3) ∧ (dt2 29 3 = dt 29 3) ∧ (dt2 31 3 = dt 31 3) ∧ (dt2 33 3 = dt 33 3) ∧ (∀ j : Nat, j < 80 → dt2 15 j = dt 32 j) ∧ (∀ j : Nat, j < 40 → dt2 17 j = dt 34 j) ∧ (∀ j : Nat, j < 80 → dt2 32 j = dt 32 j) ∧ (∀ j : Nat, j < 40 → dt2 34 j = dt 34 j)) ∨ (∃ v : Int, r = some (.inl v) ∧ (0 ≤ v ∧ v ≤ 1) ∧ (v = 0) ∧ (dt 0 2 = 0) ∧ (dt2 0 2 = 0) ∧ (dt2 1 0 = dt 1 0) ∧ (dt2 7 3 = dt 7 3) ∧ (dt2 10 3 = dt 10 3) ∧ (dt2 12 3 = dt 12 3) ∧ (dt2 14 3 = dt 14 3) ∧ (dt2 16 3 = dt 16 3) ∧ (dt2 18 0 = dt 18 0) ∧ (dt2 24 3 = dt 24 3) ∧ (dt2 27 3 = dt 27 3) ∧ (dt2 29 3 = dt 29 3) ∧ (dt2 31 3 = dt 31 3) ∧ (dt2 33 3 = dt 33 3) ∧ (∀ j : Nat, j < 80 → dt2 15 j = dt 15 j) ∧ (∀ j : Nat, j < 40 → dt2 17 j = dt 17 j) ∧ (∀ j : Nat, j < 80 → dt2 32 j = dt 32 j) ∧ (∀ j : Nat, j < 40 → dt2 34 j = dt 34 j)))) := by
  have hF : Fr [1, 2, 3, 4, 5, 6, 7, 8, 9, 10, 11, 12, 13, 14, 15, 16, 17] dt dt := Fr_refl
  have r1 : 0 ≤ dt 0 2 ∧ dt 0 2 ≤ 1 := InvC_get hI 0 2 rfl rfl
  refine go_ifq PM98 (k := 4) (p1 := 41) (p2 := 30) (L' := [some (.inr (.inr (some 0))), some (.inl 0)]) (st' := []) (w' := (SH, dt)) rfl (z_eq (a := dt 0 2) (by first | exact bnd r1 (by decide) (by decide) | exact ⟨by omega, by omega⟩)) (fun c2 => ?_) (fun c2 => ?_)
  · skip
    refine go_toq PM98 (k := 2) (pc' := 45) (L' := [some (.inr (.inr (some 0))), some (.inl 0)]) (st' := [.inl (dt 0 2)]) (w' := (SH, dt)) rfl ?_
    refine go_retvq PM98 (v := dt 0 2) rfl (decide_eq_true (show dt 0 2 = 0 ∨ dt 0 2 = 1 by omega)) ?_
    first | exact ⟨dt, rfl, hI, hF, (Or.inl ⟨_, rfl, ⟨by omega, by omega⟩, ⟨by first | exact True.intro | with_reducible assumption | rfl | omega | trivial, by first | exact True.intro | with_reducible assumption | rfl | omega | trivial, by first | exact True.intro | with_reducible assumption | rfl | omega | trivial, by first | exact True.intro | with_reducible assumption | rfl | omega | trivial, by first | exact True.intro | with_reducible assumption | rfl | omega | trivial, by first | exact True.intro | with_reducible assumption | rfl | omega | trivial, by first | exact True.intro | with_reducible assumption | rfl | omega | trivial, by first | exact True.intro | with_reducible assumption | rfl | omega | trivial, by first | exact True.intro | with_reducible assumption | rfl | omega | trivial, by first | exact True.intro | with_reducible assumption | rfl | omega | trivial, by first | exact True.intro | with_reducible assumption | rfl | omega | trivial, by first | exact True.intro | with_reducible assumption | rfl | omega | trivial, by first | exact True.intro | with_reducible assumption | rfl | omega | trivial, by first | exact True.intro | with_reducible assumption | rfl | omega | trivial, by first | exact True.intro | with_reducible assumption | rfl | omega | trivial, by first | exact fun _ _ => rfl | assumption | exact fun j _ => $hFc 15 (by decide) j, by first | exact fun _ _ => rfl | assumption | exact fun j _ => $hFc 17 (by decide) j, by first | exact fun _ _ => rfl | assumption | exact fun j _ => $hFc 32 (by decide) j, by first | exact fun _ _ => rfl | assumption | exact fun j _ => $hFc 34 (by decide) j⟩⟩)⟩ | exact ⟨dt, rfl, hI, hF, (Or.inr ⟨_, rfl, ⟨by omega, by omega⟩, ⟨by first | exact True.intro | with_reducible assumption | rfl | omega | trivial, by first | exact True.intro | with_reducible assumption | rfl | omega | trivial, by first | exact True.intro | with_reducible assumption | rfl | omega | trivial, by first | exact True.intro | with_reducible assumption | rfl | omega | trivial, by first | exact True.intro | with_reducible assumption | rfl | omega | trivial, by first | exact True.intro | with_reducible assumption | rfl | omega | trivial, by first | exact True.intro | with_reducible assumption | rfl | omega | trivial, by first | exact True.intro | with_reducible assumption | rfl | omega | trivial, by first | exact True.intro | with_reducible assumption | rfl | omega | trivial, by first | exact True.intro | with_reducible assumption | rfl | omega | trivial, by first | exact True.intro | with_reducible assumption | rfl | omega | trivial, by first | exact True.intro | with_reducible assumption | rfl | omega | trivial, by first | exact True.intro | with_reducible assumption | rfl | omega | trivial, by first | exact True.intro | with_reducible assumption | rfl | omega | trivial, by first | exact True.intro | with_reducible assumption | rfl | omega | trivial, by first | exact fun _ _ => rfl | assumption | exact fun j _ => $hFc 15 (by decide) j, by first | exact fun _ _ => rfl | assumption | exact fun j _ => $hFc 17 (by decide) j, by first | exact fun _ _ => rfl | assumption | exact fun j _ => $hFc 32 (by decide) j, by first | exact fun _ _ => rfl | assumption | exact fun j _ => $hFc 34 (by decide) j⟩⟩)⟩
  · skip
    have qc2 : 1 ≤ dt 0 2 := by omega
    replace c2 := hid c2
    refine go_toq PM98 (k := 4) (pc' := 38) (L' := [some (.inr (.inr (some 0))), some (.inl 0)]) (st' := [.inr (.inr (some 18)), .inr (.inr (some 1))]) (w' := (SH, dt)) rfl ?_
    refine go_callq PM98 PM4 (Q' := _) rfl rfl rfl rfl (sp_X0_copyFrom_1f L xs sio (d + 0) dt hI   ) ?_
    rintro _ _ ⟨dt4, rfl, hI5, hF6, h3⟩
    refine ⟨rfl, ?_⟩
    have hF7 : Fr [1, 2, 3, 4, 5, 6, 7, 8, 9, 10, 11, 12, 13, 14, 15, 16, 17] dt dt4 := Fr_tr hF hF6 (by decide)
    have w8 : dt4 0 2 = dt 0 2 := hF6 0 (by decide) 2
    have w9 : dt4 18 0 = dt 18 0 := hF6 18 (by decide) 0
    have w10 : dt4 24 3 = dt 24 3 := hF6 24 (by decide) 3
    have w11 : dt4 27 3 = dt 27 3 := hF6 27 (by decide) 3
    have w12 : dt4 29 3 = dt 29 3 := hF6 29 (by decide) 3
    have w13 : dt4 31 3 = dt 31 3 := hF6 31 (by decide) 3
    have w14 : dt4 33 3 = dt 33 3 := hF6 33 (by decide) 3
    rcases h3 with ⟨rfl, h3⟩
    obtain ⟨h3_0, h3_1, h3_2, h3_3, h3_4, h3_5, h3_6, h3_7⟩ := h3
    have r15 : 0 ≤ dt4 0 2 ∧ dt4 0 2 ≤ 1 := InvC_get hI5 0 2 rfl rfl
    refine go_toq PM98 (k := 2) (pc' := 45) (L' := [some (.inr (.inr (some 0))), some (.inl 0)]) (st' := [.inl (dt4 0 2)]) (w' := (SH, dt4)) rfl ?_
    refine go_retvq PM98 (v := dt4 0 2) rfl (decide_eq_true (show dt4 0 2 = 0 ∨ dt4 0 2 = 1 by (first | omega | (have z0_ := unhid c2; omega)))) ?_
    first | exact ⟨dt4, rfl, hI5, hF7, (Or.inl ⟨_, rfl, ⟨by (first | omega | (have z0_ := unhid c2; omega)), by (first | omega | (have z0_ := unhid c2; omega))⟩, ⟨by first | exact True.intro | with_reducible assumption | exact unhid (by with_reducible assumption) | rfl | (first | omega | (have z0_ := unhid c2; omega)) | trivial, by first | exact True.intro | with_reducible assumption | exact unhid (by with_reducible assumption) | rfl | (first | omega | (have z0_ := unhid c2; omega)) | trivial, by first | exact True.intro | with_reducible assumption | exact unhid (by with_reducible assumption) | rfl | (first | omega | (have z0_ := unhid c2; omega)) | trivial, by first | exact True.intro | with_reducible assumption | exact unhid (by with_reducible assumption) | rfl | (first | omega | (have z0_ := unhid c2; omega)) | trivial, by first | exact True.intro | with_reducible assumption | exact unhid (by with_reducible assumption) | rfl | (first | omega | (have z0_ := unhid c2; omega)) | trivial, by first | exact True.intro | with_reducible assumption | exact unhid (by with_reducible assumption) | rfl | (first | omega | (have z0_ := unhid c2; omega)) | trivial, by first | exact True.intro | with_reducible assumption | exact unhid (by with_reducible assumption) | rfl | (first | omega | (have z0_ := unhid c2; omega)) | trivial, by first | exact True.intro | with_reducible assumption | exact unhid (by with_reducible assumption) | rfl | (first | omega | (have z0_ := unhid c2; omega)) | trivial, by first | exact True.intro | with_reducible assumption | exact unhid (by with_reducible assumption) | rfl | (first | omega | (have z0_ := unhid c2; omega)) | trivial, by first | exact True.intro | with_reducible assumption | exact unhid (by with_reducible assumption) | rfl | (first | omega | (have z0_ := unhid c2; omega)) | trivial, by first | exact True.intro | with_reducible assumption | exact unhid (by with_reducible assumption) | rfl | (first | omega | (have z0_ := unhid c2; omega)) | trivial, by first | exact True.intro | with_reducible assumption | exact unhid (by with_reducible assumption) | rfl | (first | omega | (have z0_ := unhid c2; omega)) | trivial, by first | exact True.intro | with_reducible assumption | exact unhid (by with_reducible assumption) | rfl | (first | omega | (have z0_ := unhid c2; omega)) | trivial, by first | exact True.intro | with_reducible assumption | exact unhid (by with_reducible assumption) | rfl | (first | omega | (have z0_ := unhid c2; omega)) | trivial, by first | exact True.intro | with_reducible assumption | exact unhid (by with_reducible assumption) | rfl | (first | omega | (have z0_ := unhid c2; omega)) | trivial, by first | exact fun _ _ => rfl | assumption | exact fun j _ => hF6 15 (by decide) j, by first | exact fun _ _ => rfl | assumption | exact fun j _ => hF6 17 (by decide) j, by first | exact fun _ _ => rfl | assumption | exact fun j _ => hF6 32 (by decide) j, by first | exact fun _ _ => rfl | assumption | exact fun j _ => hF6 34 (by decide) j⟩⟩)⟩ | exact ⟨dt4, rfl, hI5, hF7, (Or.inr ⟨_, rfl, ⟨by (first | omega | (have z0_ := unhid c2; omega)), by (first | omega | (have z0_ := unhid c2; omega))⟩, ⟨by first | exact True.intro | with_reducible assumption | exact unhid (by with_reducible assumption) | rfl | (first | omega | (have z0_ := unhid c2; omega)) | trivial, by first | exact True.intro | with_reducible assumption | exact unhid (by with_reducible assumption) | rfl | (first | omega | (have z0_ := unhid c2; omega)) | trivial, by first | exact True.intro | with_reducible assumption | exact unhid (by with_reducible assumption) | rfl | (first | omega | (have z0_ := unhid c2; omega)) | trivial, by first | exact True.intro | with_reducible assumption | exact unhid (by with_reducible assumption) | rfl | (first | omega | (have z0_ := unhid c2; omega)) | trivial, by first | exact True.intro | with_reducible assumption | exact unhid (by with_reducible assumption) | rfl | (first | omega | (have z0_ := unhid c2; omega)) | trivial, by first | exact True.intro | with_reducible assumption | exact unhid (by with_reducible assumption) | rfl | (first | omega | (have z0_ := unhid c2; omega)) | trivial, by first | exact True.intro | with_reducible assumption | exact unhid (by with_reducible assumption) | rfl | (first | omega | (have z0_ := unhid c2; omega)) | trivial, by first | exact True.intro | with_reducible assumption | exact unhid (by with_reducible assumption) | rfl | (first | omega | (have z0_ := unhid c2; omega)) | trivial, by first | exact True.intro | with_reducible assumption | exact unhid (by with_reducible assumption) | rfl | (first | omega | (have z0_ := unhid c2; omega)) | trivial, by first | exact True.intro | with_reducible assumption | exact unhid (by with_reducible assumption) | rfl | (first | omega | (have z0_ := unhid c2; omega)) | trivial, by first | exact True.intro | with_reducible assumption | exact unhid (by with_reducible assumption) | rfl | (first | omega | (have z0_ := unhid c2; omega)) | trivial, by first | exact True.intro | with_reducible assumption | exact unhid (by with_reducible assumption) | rfl | (first | omega | (have z0_ := unhid c2; omega)) | trivial, by first | exact True.intro | with_reducible assumption | exact unhid (by with_reducible assumption) | rfl | (first | omega | (have z0_ := unhid c2; omega)) | trivial, by first | exact True.intro | with_reducible assumption | exact unhid (by with_reducible assumption) | rfl | (first | omega | (have z0_ := unhid c2; omega)) | trivial, by first | exact True.intro | with_reducible assumption | exact unhid (by with_reducible assumption) | rfl | (first | omega | (have z0_ := unhid c2; omega)) | trivial, by first | exact fun _ _ => rfl | assumption | exact fun j _ => hF6 15 (by decide) j, by first | exact fun _ _ => rfl | assumption | exact fun j _ => hF6 17 (by decide) j, by first | exact fun _ _ => rfl | assumption | exact fun j _ => hF6 32 (by decide) j, by first | exact fun _ _ => rfl | assumption | exact fun j _ => hF6 34 (by decide) j⟩⟩)⟩
