theorem sp_X2_set_10_0 (L : Nat) (xs : Nat → Int32) (sio : Option Nat) (d : Nat) (dt : Nat → Nat → Int) (hI : InvC dt)  (p2 : Int) (h_p2 : (-2147483648) ≤ p2 ∧ p2 ≤ 2147483647) (h_p0 : 0 < dt 10 3) : GO (am_XX L xs sio) (d) 41 0 [some (.inr (.inr (some 10))), some (.inl 0), some (.inl p2)] [] (SH, dt) (fun r w2 => ∃ dt2 : Nat → Nat → Int, w2 = (SH, dt2) ∧ InvC dt2 ∧ Fr [11] dt dt2 ∧ ((r = none ∧ (∀ j : Nat, ¬ (j : Int) = ((dt 10 3) - 1) * 4 + 0 → dt2 11 j = dt 11 j) ∧ (dt2 11 ((((dt 10 3) - 1) * 4) + 0).toNat = p2)))) := by
  have hF : Fr [11] dt dt := Fr_refl
  have r1 : 0 ≤ dt 10 3 ∧ dt 10 3 ≤ 40 := InvC_get hI 10 3 rfl rfl
  refine go_ifq PM41 (k := 2) (p1 := 34) (p2 := 7) (L' := [some (.inr (.inr (some 10))), some (.inl 0), some (.inl p2)]) (st' := []) (w' := (SH, dt)) rfl (z_le (a := dt 10 3) (by first | exact bnd r1 (by decide) (by decide) | exact ⟨by fail, by fail⟩)) (fun c2 => ?_) (fun c2 => ?_)
  · skip
    refine go_retq PM41 (k := 0) (r := none) (w1 := (SH, dt)) rfl ?_
    exact ⟨dt, rfl, hI, hF, ⟨rfl, ⟨by intro j hj; first | exact u2_ne (by omega) | (exfalso; omega), by first | exact u2_eq | (exfalso; omega)⟩⟩⟩
  · skip
    refine go_toq PM41 (k := 2) (pc' := 9) (L' := [some (.inr (.inr (some 10))), some (.inl 0), some (.inl p2)]) (st' := [.inr (.inr (some 10)), .inl 0]) (w' := (SH, dt)) rfl ?_
    refine go_smpq PM41 (L' := [some (.inr (.inr (some 10))), some (.inl 0), some (.inl p2)]) (st' := [.inl 4, .inl 0]) (w' := (SH, dt)) rfl rfl (s_gfc rfl rfl rfl (hI.2 10 1 rfl)) ?_
    refine go_toq PM41 (k := 8) (pc' := 26) (L' := [some (.inr (.inr (some 10))), some (.inl 0), some (.inl p2)]) (st' := [.inr (.inr (some 10)), .inl ((dt 10 3) - 1), .inr (.inr (some 11))]) (w' := (SH, dt)) rfl ?_
    refine go_smpq PM41 (L' := [some (.inr (.inr (some 10))), some (.inl 0), some (.inl p2)]) (st' := [.inl 4, .inl ((dt 10 3) - 1), .inr (.inr (some 11))]) (w' := (SH, dt)) rfl rfl (s_gfc rfl rfl rfl (hI.2 10 1 rfl)) ?_
    refine go_toq PM41 (k := 4) (pc' := 33) (L' := [some (.inr (.inr (some 10))), some (.inl 0), some (.inl p2)]) (st' := [.inl p2, .inl ((((dt 10 3) - 1) * 4) + 0), .inr (.inr (some 11))]) (w' := (SH, dt)) rfl ?_
    have hI3 : InvC (u2 dt 11 (((((dt 10 3) - 1) * 4) + 0).toNat) p2) := InvC_u2 hI (lo := -2147483648) (hi := 2147483647) rfl rfl rfl (by first | exact bnd1 h_p2 (by decide) | fail) (by first | exact bnd2 h_p2 (by decide) | fail)
    have hF4 : Fr [11] dt (u2 dt 11 (((((dt 10 3) - 1) * 4) + 0).toNat) p2) := Fr_u2 hF (by decide)
    refine go_smpq PM41 (L' := [some (.inr (.inr (some 10))), some (.inl 0), some (.inl p2)]) (st' := []) (w' := (SH, (u2 dt 11 (((((dt 10 3) - 1) * 4) + 0).toNat) p2))) rfl rfl (s_iast (n := 160) rfl ⟨by omega, by omega⟩ (by first | exact bnd h_p2 (by decide) (by decide) | exact ⟨by fail, by fail⟩)) ?_
    refine go_retq PM41 (k := 0) (r := none) (w1 := (SH, (u2 dt 11 (((((dt 10 3) - 1) * 4) + 0).toNat) p2))) rfl ?_
    exact ⟨(u2 dt 11 (((((dt 10 3) - 1) * 4) + 0).toNat) p2), rfl, hI3, hF4, ⟨rfl, ⟨by intro j hj; first | exact u2_ne (by omega) | (exfalso; fail), by first | exact u2_eq | (exfalso; fail)⟩⟩⟩
theorem sp_X2_set_10_1 (L : Nat) (xs : Nat → Int32) (sio : Option Nat) (d : Nat) (dt : Nat → Nat → Int) (hI : InvC dt)  (p2 : Int) (h_p2 : (-2147483648) ≤ p2 ∧ p2 ≤ 2147483647) (h_p0 : 0 < dt 10 3) : GO (am_XX L xs sio) (d) 41 0 [some (.inr (.inr (some 10))), some (.inl 1), some (.inl p2)] [] (SH, dt) (fun r w2 => ∃ dt2 : Nat → Nat → Int, w2 = (SH, dt2) ∧ InvC dt2 ∧ Fr [11] dt dt2 ∧ ((r = none ∧ (∀ j : Nat, ¬ (j : Int) = ((dt 10 3) - 1) * 4 + 1 → dt2 11 j = dt 11 j) ∧ (dt2 11 ((((dt 10 3) - 1) * 4) + 1).toNat = p2)))) := by
  have hF : Fr [11] dt dt := Fr_refl
  have r1 : 0 ≤ dt 10 3 ∧ dt 10 3 ≤ 40 := InvC_get hI 10 3 rfl rfl
  refine go_ifq PM41 (k := 2) (p1 := 34) (p2 := 7) (L' := [some (.inr (.inr (some 10))), some (.inl 1), some (.inl p2)]) (st' := []) (w' := (SH, dt)) rfl (z_le (a := dt 10 3) (by first | exact bnd r1 (by decide) (by decide) | exact ⟨by fail, by fail⟩)) (fun c2 => ?_) (fun c2 => ?_)
  · skip
    refine go_retq PM41 (k := 0) (r := none) (w1 := (SH, dt)) rfl ?_
    exact ⟨dt, rfl, hI, hF, ⟨rfl, ⟨by intro j hj; first | exact u2_ne (by omega) | (exfalso; omega), by first | exact u2_eq | (exfalso; omega)⟩⟩⟩
  · skip
    refine go_toq PM41 (k := 2) (pc' := 9) (L' := [some (.inr (.inr (some 10))), some (.inl 1), some (.inl p2)]) (st' := [.inr (.inr (some 10)), .inl 1]) (w' := (SH, dt)) rfl ?_
    refine go_smpq PM41 (L' := [some (.inr (.inr (some 10))), some (.inl 1), some (.inl p2)]) (st' := [.inl 4, .inl 1]) (w' := (SH, dt)) rfl rfl (s_gfc rfl rfl rfl (hI.2 10 1 rfl)) ?_
    refine go_toq PM41 (k := 8) (pc' := 26) (L' := [some (.inr (.inr (some 10))), some (.inl 1), some (.inl p2)]) (st' := [.inr (.inr (some 10)), .inl ((dt 10 3) - 1), .inr (.inr (some 11))]) (w' := (SH, dt)) rfl ?_
    refine go_smpq PM41 (L' := [some (.inr (.inr (some 10))), some (.inl 1), some (.inl p2)]) (st' := [.inl 4, .inl ((dt 10 3) - 1), .inr (.inr (some 11))]) (w' := (SH, dt)) rfl rfl (s_gfc rfl rfl rfl (hI.2 10 1 rfl)) ?_
    refine go_toq PM41 (k := 4) (pc' := 33) (L' := [some (.inr (.inr (some 10))), some (.inl 1), some (.inl p2)]) (st' := [.inl p2, .inl ((((dt 10 3) - 1) * 4) + 1), .inr (.inr (some 11))]) (w' := (SH, dt)) rfl ?_
    have hI3 : InvC (u2 dt 11 (((((dt 10 3) - 1) * 4) + 1).toNat) p2) := InvC_u2 hI (lo := -2147483648) (hi := 2147483647) rfl rfl rfl (by first | exact bnd1 h_p2 (by decide) | fail) (by first | exact bnd2 h_p2 (by decide) | fail)
    have hF4 : Fr [11] dt (u2 dt 11 (((((dt 10 3) - 1) * 4) + 1).toNat) p2) := Fr_u2 hF (by decide)
    refine go_smpq PM41 (L' := [some (.inr (.inr (some 10))), some (.inl 1), some (.inl p2)]) (st' := []) (w' := (SH, (u2 dt 11 (((((dt 10 3) - 1) * 4) + 1).toNat) p2))) rfl rfl (s_iast (n := 160) rfl ⟨by omega, by omega⟩ (by first | exact bnd h_p2 (by decide) (by decide) | exact ⟨by fail, by fail⟩)) ?_
    refine go_retq PM41 (k := 0) (r := none) (w1 := (SH, (u2 dt 11 (((((dt 10 3) - 1) * 4) + 1).toNat) p2))) rfl ?_
    exact ⟨(u2 dt 11 (((((dt 10 3) - 1) * 4) + 1).toNat) p2), rfl, hI3, hF4, ⟨rfl, ⟨by intro j hj; first | exact u2_ne (by omega) | (exfalso; fail), by first | exact u2_eq | (exfalso; fail)⟩⟩⟩
theorem sp_X2_set_10_2 (L : Nat) (xs : Nat → Int32) (sio : Option Nat) (d : Nat) (dt : Nat → Nat → Int) (hI : InvC dt)  (p2 : Int) (h_p2 : (-2147483648) ≤ p2 ∧ p2 ≤ 2147483647) (h_p0 : 0 < dt 10 3) : GO (am_XX L xs sio) (d) 41 0 [some (.inr (.inr (some 10))), some (.inl 2), some (.inl p2)] [] (SH, dt) (fun r w2 => ∃ dt2 : Nat → Nat → Int, w2 = (SH, dt2) ∧ InvC dt2 ∧ Fr [11] dt dt2 ∧ ((r = none ∧ (∀ j : Nat, ¬ (j : Int) = ((dt 10 3) - 1) * 4 + 2 → dt2 11 j = dt 11 j) ∧ (dt2 11 ((((dt 10 3) - 1) * 4) + 2).toNat = p2)))) := by
  have hF : Fr [11] dt dt := Fr_refl
  have r1 : 0 ≤ dt 10 3 ∧ dt 10 3 ≤ 40 := InvC_get hI 10 3 rfl rfl
  refine go_ifq PM41 (k := 2) (p1 := 34) (p2 := 7) (L' := [some (.inr (.inr (some 10))), some (.inl 2), some (.inl p2)]) (st' := []) (w' := (SH, dt)) rfl (z_le (a := dt 10 3) (by first | exact bnd r1 (by decide) (by decide) | exact ⟨by fail, by fail⟩)) (fun c2 => ?_) (fun c2 => ?_)
  · skip
    refine go_retq PM41 (k := 0) (r := none) (w1 := (SH, dt)) rfl ?_
    exact ⟨dt, rfl, hI, hF, ⟨rfl, ⟨by intro j hj; first | exact u2_ne (by omega) | (exfalso; omega), by first | exact u2_eq | (exfalso; omega)⟩⟩⟩
  · skip
    refine go_toq PM41 (k := 2) (pc' := 9) (L' := [some (.inr (.inr (some 10))), some (.inl 2), some (.inl p2)]) (st' := [.inr (.inr (some 10)), .inl 2]) (w' := (SH, dt)) rfl ?_
    refine go_smpq PM41 (L' := [some (.inr (.inr (some 10))), some (.inl 2), some (.inl p2)]) (st' := [.inl 4, .inl 2]) (w' := (SH, dt)) rfl rfl (s_gfc rfl rfl rfl (hI.2 10 1 rfl)) ?_
    refine go_toq PM41 (k := 8) (pc' := 26) (L' := [some (.inr (.inr (some 10))), some (.inl 2), some (.inl p2)]) (st' := [.inr (.inr (some 10)), .inl ((dt 10 3) - 1), .inr (.inr (some 11))]) (w' := (SH, dt)) rfl ?_
    refine go_smpq PM41 (L' := [some (.inr (.inr (some 10))), some (.inl 2), some (.inl p2)]) (st' := [.inl 4, .inl ((dt 10 3) - 1), .inr (.inr (some 11))]) (w' := (SH, dt)) rfl rfl (s_gfc rfl rfl rfl (hI.2 10 1 rfl)) ?_
    refine go_toq PM41 (k := 4) (pc' := 33) (L' := [some (.inr (.inr (some 10))), some (.inl 2), some (.inl p2)]) (st' := [.inl p2, .inl ((((dt 10 3) - 1) * 4) + 2), .inr (.inr (some 11))]) (w' := (SH, dt)) rfl ?_
    have hI3 : InvC (u2 dt 11 (((((dt 10 3) - 1) * 4) + 2).toNat) p2) := InvC_u2 hI (lo := -2147483648) (hi := 2147483647) rfl rfl rfl (by first | exact bnd1 h_p2 (by decide) | fail) (by first | exact bnd2 h_p2 (by decide) | fail)
    have hF4 : Fr [11] dt (u2 dt 11 (((((dt 10 3) - 1) * 4) + 2).toNat) p2) := Fr_u2 hF (by decide)
    refine go_smpq PM41 (L' := [some (.inr (.inr (some 10))), some (.inl 2), some (.inl p2)]) (st' := []) (w' := (SH, (u2 dt 11 (((((dt 10 3) - 1) * 4) + 2).toNat) p2))) rfl rfl (s_iast (n := 160) rfl ⟨by omega, by omega⟩ (by first | exact bnd h_p2 (by decide) (by decide) | exact ⟨by fail, by fail⟩)) ?_
    refine go_retq PM41 (k := 0) (r := none) (w1 := (SH, (u2 dt 11 (((((dt 10 3) - 1) * 4) + 2).toNat) p2))) rfl ?_
    exact ⟨(u2 dt 11 (((((dt 10 3) - 1) * 4) + 2).toNat) p2), rfl, hI3, hF4, ⟨rfl, ⟨by intro j hj; first | exact u2_ne (by omega) | (exfalso; fail), by first | exact u2_eq | (exfalso; fail)⟩⟩⟩
theorem sp_X2_set_10_3 (L : Nat) (xs : Nat → Int32) (sio : Option Nat) (d : Nat) (dt : Nat → Nat → Int) (hI : InvC dt)  (p2 : Int) (h_p2 : (-2147483648) ≤ p2 ∧ p2 ≤ 2147483647) (h_p0 : 0 < dt 10 3) : GO (am_XX L xs sio) (d) 41 0 [some (.inr (.inr (some 10))), some (.inl 3), some (.inl p2)] [] (SH, dt) (fun r w2 => ∃ dt2 : Nat → Nat → Int, w2 = (SH, dt2) ∧ InvC dt2 ∧ Fr [11] dt dt2 ∧ ((r = none ∧ (∀ j : Nat, ¬ (j : Int) = ((dt 10 3) - 1) * 4 + 3 → dt2 11 j = dt 11 j) ∧ (dt2 11 ((((dt 10 3) - 1) * 4) + 3).toNat = p2)))) := by
  have hF : Fr [11] dt dt := Fr_refl
  have r1 : 0 ≤ dt 10 3 ∧ dt 10 3 ≤ 40 := InvC_get hI 10 3 rfl rfl
  refine go_ifq PM41 (k := 2) (p1 := 34) (p2 := 7) (L' := [some (.inr (.inr (some 10))), some (.inl 3), some (.inl p2)]) (st' := []) (w' := (SH, dt)) rfl (z_le (a := dt 10 3) (by first | exact bnd r1 (by decide) (by decide) | exact ⟨by fail, by fail⟩)) (fun c2 => ?_) (fun c2 => ?_)
  · skip
    refine go_retq PM41 (k := 0) (r := none) (w1 := (SH, dt)) rfl ?_
    exact ⟨dt, rfl, hI, hF, ⟨rfl, ⟨by intro j hj; first | exact u2_ne (by omega) | (exfalso; omega), by first | exact u2_eq | (exfalso; omega)⟩⟩⟩
  · skip
    refine go_toq PM41 (k := 2) (pc' := 9) (L' := [some (.inr (.inr (some 10))), some (.inl 3), some (.inl p2)]) (st' := [.inr (.inr (some 10)), .inl 3]) (w' := (SH, dt)) rfl ?_
    refine go_smpq PM41 (L' := [some (.inr (.inr (some 10))), some (.inl 3), some (.inl p2)]) (st' := [.inl 4, .inl 3]) (w' := (SH, dt)) rfl rfl (s_gfc rfl rfl rfl (hI.2 10 1 rfl)) ?_
    refine go_toq PM41 (k := 8) (pc' := 26) (L' := [some (.inr (.inr (some 10))), some (.inl 3), some (.inl p2)]) (st' := [.inr (.inr (some 10)), .inl ((dt 10 3) - 1), .inr (.inr (some 11))]) (w' := (SH, dt)) rfl ?_
    refine go_smpq PM41 (L' := [some (.inr (.inr (some 10))), some (.inl 3), some (.inl p2)]) (st' := [.inl 4, .inl ((dt 10 3) - 1), .inr (.inr (some 11))]) (w' := (SH, dt)) rfl rfl (s_gfc rfl rfl rfl (hI.2 10 1 rfl)) ?_
    refine go_toq PM41 (k := 4) (pc' := 33) (L' := [some (.inr (.inr (some 10))), some (.inl 3), some (.inl p2)]) (st' := [.inl p2, .inl ((((dt 10 3) - 1) * 4) + 3), .inr (.inr (some 11))]) (w' := (SH, dt)) rfl ?_
    have hI3 : InvC (u2 dt 11 (((((dt 10 3) - 1) * 4) + 3).toNat) p2) := InvC_u2 hI (lo := -2147483648) (hi := 2147483647) rfl rfl rfl (by first | exact bnd1 h_p2 (by decide) | fail) (by first | exact bnd2 h_p2 (by decide) | fail)
    have hF4 : Fr [11] dt (u2 dt 11 (((((dt 10 3) - 1) * 4) + 3).toNat) p2) := Fr_u2 hF (by decide)
    refine go_smpq PM41 (L' := [some (.inr (.inr (some 10))), some (.inl 3), some (.inl p2)]) (st' := []) (w' := (SH, (u2 dt 11 (((((dt 10 3) - 1) * 4) + 3).toNat) p2))) rfl rfl (s_iast (n := 160) rfl ⟨by omega, by omega⟩ (by first | exact bnd h_p2 (by decide) (by decide) | exact ⟨by fail, by fail⟩)) ?_
    refine go_retq PM41 (k := 0) (r := none) (w1 := (SH, (u2 dt 11 (((((dt 10 3) - 1) * 4) + 3).toNat) p2))) rfl ?_
    exact ⟨(u2 dt 11 (((((dt 10 3) - 1) * 4) + 3).toNat) p2), rfl, hI3, hF4, ⟨rfl, ⟨by intro j hj; first | exact u2_ne (by omega) | (exfalso; fail), by first | exact u2_eq | (exfalso; fail)⟩⟩⟩
theorem sp_X2_set_10_4 (L : Nat) (xs : Nat → Int32) (sio : Option Nat) (d : Nat) (dt : Nat → Nat → Int) (hI : InvC dt)  (p2 : Int) (h_p2 : (-2147483648) ≤ p2 ∧ p2 ≤ 2147483647)  : GO (am_XX L xs sio) (d) 41 0 [some (.inr (.inr (some 10))), some (.inl 4), some (.inl p2)] [] (SH, dt) (fun r w2 => w2 = (SH, dt) ∧ ((r = none ∧ True))) := by
  have r1 : 0 ≤ dt 10 3 ∧ dt 10 3 ≤ 40 := InvC_get hI 10 3 rfl rfl
  refine go_ifq PM41 (k := 2) (p1 := 34) (p2 := 7) (L' := [some (.inr (.inr (some 10))), some (.inl 4), some (.inl p2)]) (st' := []) (w' := (SH, dt)) rfl (z_le (a := dt 10 3) (by first | exact bnd r1 (by decide) (by decide) | exact ⟨by fail, by fail⟩)) (fun c2 => ?_) (fun c2 => ?_)
  · skip
    refine go_retq PM41 (k := 0) (r := none) (w1 := (SH, dt)) rfl ?_
    exact ⟨rfl, ⟨rfl, trivial⟩⟩
  · skip
    refine go_toq PM41 (k := 2) (pc' := 9) (L' := [some (.inr (.inr (some 10))), some (.inl 4), some (.inl p2)]) (st' := [.inr (.inr (some 10)), .inl 4]) (w' := (SH, dt)) rfl ?_
    refine go_smpq PM41 (L' := [some (.inr (.inr (some 10))), some (.inl 4), some (.inl p2)]) (st' := [.inl 4, .inl 4]) (w' := (SH, dt)) rfl rfl (s_gfc rfl rfl rfl (hI.2 10 1 rfl)) ?_
    refine go_retq PM41 (k := 1) (r := none) (w1 := (SH, dt)) rfl ?_
    exact ⟨rfl, ⟨rfl, trivial⟩⟩
theorem sp_X2_set_10_5 (L : Nat) (xs : Nat → Int32) (sio : Option Nat) (d : Nat) (dt : Nat → Nat → Int) (hI : InvC dt)  (p2 : Int) (h_p2 : (-2147483648) ≤ p2 ∧ p2 ≤ 2147483647)  : GO (am_XX L xs sio) (d) 41 0 [some (.inr (.inr (some 10))), some (.inl 5), some (.inl p2)] [] (SH, dt) (fun r w2 => w2 = (SH, dt) ∧ ((r = none ∧ True))) := by
  have r1 : 0 ≤ dt 10 3 ∧ dt 10 3 ≤ 40 := InvC_get hI 10 3 rfl rfl
  refine go_ifq PM41 (k := 2) (p1 := 34) (p2 := 7) (L' := [some (.inr (.inr (some 10))), some (.inl 5), some (.inl p2)]) (st' := []) (w' := (SH, dt)) rfl (z_le (a := dt 10 3) (by first | exact bnd r1 (by decide) (by decide) | exact ⟨by fail, by fail⟩)) (fun c2 => ?_) (fun c2 => ?_)
  · skip
    refine go_retq PM41 (k := 0) (r := none) (w1 := (SH, dt)) rfl ?_
    exact ⟨rfl, ⟨rfl, trivial⟩⟩
  · skip
    refine go_toq PM41 (k := 2) (pc' := 9) (L' := [some (.inr (.inr (some 10))), some (.inl 5), some (.inl p2)]) (st' := [.inr (.inr (some 10)), .inl 5]) (w' := (SH, dt)) rfl ?_
    refine go_smpq PM41 (L' := [some (.inr (.inr (some 10))), some (.inl 5), some (.inl p2)]) (st' := [.inl 4, .inl 5]) (w' := (SH, dt)) rfl rfl (s_gfc rfl rfl rfl (hI.2 10 1 rfl)) ?_
    refine go_retq PM41 (k := 1) (r := none) (w1 := (SH, dt)) rfl ?_
    exact ⟨rfl, ⟨rfl, trivial⟩⟩
theorem sp_X2_add_10f (L : Nat) (xs : Nat → Int32) (sio : Option Nat) (d : Nat) (dt : Nat → Nat → Int) (hI : InvC dt)  (p1 : Int) (h_p1 : (-2147483648) ≤ p1 ∧ p1 ≤ 2147483647) (p2 : Int) (h_p2 : (-2147483648) ≤ p2 ∧ p2 ≤ 2147483647) (p3 : Int) (h_p3 : (-2147483648) ≤ p3 ∧ p3 ≤ 2147483647) (p4 : Int) (h_p4 : (-2147483648) ≤ p4 ∧ p4 ≤ 2147483647) (p5 : Int) (h_p5 : (-2147483648) ≤ p5 ∧ p5 ≤ 2147483647) (p6 : Int) (h_p6 : (-2147483648) ≤ p6 ∧ p6 ≤ 2147483647)  : GO (am_XX L xs sio) (d + 1) 40 0 [some (.inr (.inr (some 10))), some (.inl p1), some (.inl p2), some (.inl p3), some (.inl p4), some (.inl p5), some (.inl p6)] [] (SH, dt) (fun r w2 => ∃ dt2 : Nat → Nat → Int, w2 = (SH, dt2) ∧ InvC dt2 ∧ Fr [10, 11] dt dt2 ∧ ((r = some (.inl (-1)) ∧ (40 ≤ dt 10 3) ∧ (dt2 10 3 = dt 10 3) ∧ (∀ j : Nat, dt2 11 j = dt 11 j)) ∨ (∃ v : Int, r = some (.inl v) ∧ (0 ≤ v ∧ v ≤ 40) ∧ (v = dt 10 3) ∧ (dt 10 3 < 40) ∧ (dt2 10 3 = dt 10 3 + 1) ∧ (∀ j : Nat, (j : Int) < 4 * dt 10 3 → dt2 11 j = dt 11 j) ∧ (dt2 11 (((dt 10 3) * 4) + 0).toNat = p1) ∧ (dt2 11 (((dt 10 3) * 4) + 1).toNat = p2) ∧ (dt2 11 (((dt 10 3) * 4) + 2).toNat = p3) ∧ (dt2 11 (((dt 10 3) * 4) + 3).toNat = p4)))) := by
  have hF : Fr [10, 11] dt dt := Fr_refl
  have r1 : 0 ≤ dt 10 3 ∧ dt 10 3 ≤ 40 := InvC_get hI 10 3 rfl rfl
  refine go_toq PM40 (k := 1) (pc' := 1) (L' := [some (.inr (.inr (some 10))), some (.inl p1), some (.inl p2), some (.inl p3), some (.inl p4), some (.inl p5), some (.inl p6)]) (st' := [.inr (.inr (some 10))]) (w' := (SH, dt)) rfl ?_
  refine go_callq PM40 PM38 (Q' := _) rfl rfl rfl rfl (sp_X2_isFull_10 L xs sio (d + 0) dt hI   ) ?_
  rintro _ _ ⟨rfl, h2⟩
  refine ⟨rfl, ?_⟩
  rcases h2 with ⟨rfl, h2⟩ | ⟨rfl, h2⟩
  · skip
    refine go_retq PM40 (k := 2) (r := some (.inl (-1))) (w1 := (SH, dt)) rfl ?_
    first | exact ⟨dt, rfl, hI, hF, (Or.inl ⟨rfl, ⟨by first | exact True.intro | with_reducible assumption | rfl | fail | trivial, by first | exact True.intro | with_reducible assumption | rfl | fail | trivial, by exact fun _ => rfl⟩⟩)⟩ | exact ⟨dt, rfl, hI, hF, (Or.inr ⟨_, rfl, ⟨by decide, by decide⟩, ⟨by first | exact True.intro | with_reducible assumption | rfl | fail | trivial, by first | exact True.intro | with_reducible assumption | rfl | fail | trivial, by first | exact True.intro | with_reducible assumption | rfl | fail | trivial, by assumption, by assumption, by assumption, by assumption, by assumption⟩⟩)⟩
  · skip
    refine go_toq PM40 (k := 6) (pc' := 16) (L' := [some (.inr (.inr (some 10))), some (.inl p1), some (.inl p2), some (.inl p3), some (.inl p4), some (.inl p5), some (.inl p6)]) (st' := [.inl ((dt 10 3) + 1), .inr (.inr (some 10))]) (w' := (SH, dt)) rfl ?_
    have hI3 : InvC (u2 dt 10 3 ((dt 10 3) + 1)) := InvC_u2 hI (lo := 0) (hi := 40) rfl rfl rfl (by omega) (by omega)
    have hF4 : Fr [10, 11] dt (u2 dt 10 3 ((dt 10 3) + 1)) := Fr_u2 hF (by decide)
    have w5 : (u2 dt 10 3 ((dt 10 3) + 1)) 10 3 = (dt 10 3) + 1 := rfl
    refine go_smpq PM40 (L' := [some (.inr (.inr (some 10))), some (.inl p1), some (.inl p2), some (.inl p3), some (.inl p4), some (.inl p5), some (.inl p6)]) (st' := []) (w' := (SH, (u2 dt 10 3 ((dt 10 3) + 1)))) rfl rfl (s_pf rfl rfl rfl rfl (by first | exact bndp r1 (by decide) (by decide) | exact ⟨by fail, by fail⟩)) ?_
    refine go_toq PM40 (k := 3) (pc' := 22) (L' := [some (.inr (.inr (some 10))), some (.inl p1), some (.inl p2), some (.inl p3), some (.inl p4), some (.inl p5), some (.inl p6)]) (st' := [.inl p1, .inl 0, .inr (.inr (some 10))]) (w' := (SH, (u2 dt 10 3 ((dt 10 3) + 1)))) rfl ?_
    refine go_callq PM40 PM41 (Q' := _) rfl rfl rfl rfl (sp_X2_set_10_0 L xs sio (d + 0) (u2 dt 10 3 ((dt 10 3) + 1)) hI3  p1 (by first | exact h_p1 | exact bnd h_p1 (by decide) (by decide) | exact ⟨by fail, by fail⟩) (by first | exact True.intro | with_reducible assumption | rfl | omega | trivial)) ?_
    rintro _ _ ⟨dt7, rfl, hI8, hF9, h6⟩
    refine ⟨rfl, ?_⟩
    have hF10 : Fr [10, 11] dt dt7 := Fr_tr hF4 hF9 (by decide)
    have w11 : dt7 10 3 = (u2 dt 10 3 ((dt 10 3) + 1)) 10 3 := hF9 10 (by decide) 3
    rcases h6 with ⟨rfl, h6⟩
    obtain ⟨h6_0, h6_1⟩ := h6
    have B12 : ∀ j : Nat, (j : Int) < 4 * dt 10 3 → dt7 11 j = dt 11 j := fun j hj => (h6_0 j (by omega)).trans rfl
    have Y13 : dt7 11 (((dt 10 3) * 4) + 0).toNat = p1 := by rw [show (((dt 10 3) * 4) + 0).toNat = (((((u2 dt 10 3 ((dt 10 3) + 1)) 10 3) - 1) * 4) + 0).toNat by first | with_reducible assumption | omega]; exact h6_1
    refine go_toq PM40 (k := 3) (pc' := 28) (L' := [some (.inr (.inr (some 10))), some (.inl p1), some (.inl p2), some (.inl p3), some (.inl p4), some (.inl p5), some (.inl p6)]) (st' := [.inl p2, .inl 1, .inr (.inr (some 10))]) (w' := (SH, dt7)) rfl ?_
    refine go_callq PM40 PM41 (Q' := _) rfl rfl rfl rfl (sp_X2_set_10_1 L xs sio (d + 0) dt7 hI8  p2 (by first | exact h_p2 | exact bnd h_p2 (by decide) (by decide) | exact ⟨by fail, by fail⟩) (by first | exact True.intro | with_reducible assumption | rfl | omega | trivial)) ?_
    rintro _ _ ⟨dt15, rfl, hI16, hF17, h14⟩
    refine ⟨rfl, ?_⟩
    have hF18 : Fr [10, 11] dt dt15 := Fr_tr hF10 hF17 (by decide)
    have w19 : dt15 10 3 = dt7 10 3 := hF17 10 (by decide) 3
    rcases h14 with ⟨rfl, h14⟩
    obtain ⟨h14_0, h14_1⟩ := h14
    have B20 : ∀ j : Nat, (j : Int) < 4 * dt 10 3 → dt15 11 j = dt 11 j := fun j hj => (h14_0 j (by omega)).trans (B12 j hj)
    have Y21 : dt15 11 (((dt 10 3) * 4) + 0).toNat = p1 := (h14_0 _ (by omega)).trans Y13
    have Y22 : dt15 11 (((dt 10 3) * 4) + 1).toNat = p2 := by rw [show (((dt 10 3) * 4) + 1).toNat = ((((dt7 10 3) - 1) * 4) + 1).toNat by first | with_reducible assumption | omega]; exact h14_1
    refine go_toq PM40 (k := 3) (pc' := 34) (L' := [some (.inr (.inr (some 10))), some (.inl p1), some (.inl p2), some (.inl p3), some (.inl p4), some (.inl p5), some (.inl p6)]) (st' := [.inl p3, .inl 2, .inr (.inr (some 10))]) (w' := (SH, dt15)) rfl ?_
    refine go_callq PM40 PM41 (Q' := _) rfl rfl rfl rfl (sp_X2_set_10_2 L xs sio (d + 0) dt15 hI16  p3 (by first | exact h_p3 | exact bnd h_p3 (by decide) (by decide) | exact ⟨by fail, by fail⟩) (by first | exact True.intro | with_reducible assumption | rfl | omega | trivial)) ?_
    rintro _ _ ⟨dt24, rfl, hI25, hF26, h23⟩
    refine ⟨rfl, ?_⟩
    have hF27 : Fr [10, 11] dt dt24 := Fr_tr hF18 hF26 (by decide)
    have w28 : dt24 10 3 = dt15 10 3 := hF26 10 (by decide) 3
    rcases h23 with ⟨rfl, h23⟩
    obtain ⟨h23_0, h23_1⟩ := h23
    have B29 : ∀ j : Nat, (j : Int) < 4 * dt 10 3 → dt24 11 j = dt 11 j := fun j hj => (h23_0 j (by omega)).trans (B20 j hj)
    have Y30 : dt24 11 (((dt 10 3) * 4) + 0).toNat = p1 := (h23_0 _ (by omega)).trans Y21
    have Y31 : dt24 11 (((dt 10 3) * 4) + 1).toNat = p2 := (h23_0 _ (by omega)).trans Y22
    have Y32 : dt24 11 (((dt 10 3) * 4) + 2).toNat = p3 := by rw [show (((dt 10 3) * 4) + 2).toNat = ((((dt15 10 3) - 1) * 4) + 2).toNat by first | with_reducible assumption | omega]; exact h23_1
    refine go_toq PM40 (k := 3) (pc' := 41) (L' := [some (.inr (.inr (some 10))), some (.inl p1), some (.inl p2), some (.inl p3), some (.inl p4), some (.inl p5), some (.inl p6)]) (st' := [.inl p4, .inl 3, .inr (.inr (some 10))]) (w' := (SH, dt24)) rfl ?_
    refine go_callq PM40 PM41 (Q' := _) rfl rfl rfl rfl (sp_X2_set_10_3 L xs sio (d + 0) dt24 hI25  p4 (by first | exact h_p4 | exact bnd h_p4 (by decide) (by decide) | exact ⟨by fail, by fail⟩) (by first | exact True.intro | with_reducible assumption | rfl | omega | trivial)) ?_
    rintro _ _ ⟨dt34, rfl, hI35, hF36, h33⟩
    refine ⟨rfl, ?_⟩
    have hF37 : Fr [10, 11] dt dt34 := Fr_tr hF27 hF36 (by decide)
    have w38 : dt34 10 3 = dt24 10 3 := hF36 10 (by decide) 3
    rcases h33 with ⟨rfl, h33⟩
    obtain ⟨h33_0, h33_1⟩ := h33
    have B39 : ∀ j : Nat, (j : Int) < 4 * dt 10 3 → dt34 11 j = dt 11 j := fun j hj => (h33_0 j (by omega)).trans (B29 j hj)
    have Y40 : dt34 11 (((dt 10 3) * 4) + 0).toNat = p1 := (h33_0 _ (by omega)).trans Y30
    have Y41 : dt34 11 (((dt 10 3) * 4) + 1).toNat = p2 := (h33_0 _ (by omega)).trans Y31
    have Y42 : dt34 11 (((dt 10 3) * 4) + 2).toNat = p3 := (h33_0 _ (by omega)).trans Y32
    have Y43 : dt34 11 (((dt 10 3) * 4) + 3).toNat = p4 := by rw [show (((dt 10 3) * 4) + 3).toNat = ((((dt24 10 3) - 1) * 4) + 3).toNat by first | with_reducible assumption | omega]; exact h33_1
    refine go_toq PM40 (k := 3) (pc' := 48) (L' := [some (.inr (.inr (some 10))), some (.inl p1), some (.inl p2), some (.inl p3), some (.inl p4), some (.inl p5), some (.inl p6)]) (st' := [.inl p5, .inl 4, .inr (.inr (some 10))]) (w' := (SH, dt34)) rfl ?_
    refine go_callq PM40 PM41 (Q' := _) rfl rfl rfl rfl (sp_X2_set_10_4 L xs sio (d + 0) dt34 hI35  p5 (by first | exact h_p5 | exact bnd h_p5 (by decide) (by decide) | exact ⟨by fail, by fail⟩) ) ?_
    rintro _ _ ⟨rfl, h44⟩
    refine ⟨rfl, ?_⟩
    rcases h44 with ⟨rfl, h44⟩
    refine go_toq PM40 (k := 3) (pc' := 55) (L' := [some (.inr (.inr (some 10))), some (.inl p1), some (.inl p2), some (.inl p3), some (.inl p4), some (.inl p5), some (.inl p6)]) (st' := [.inl p6, .inl 5, .inr (.inr (some 10))]) (w' := (SH, dt34)) rfl ?_
    refine go_callq PM40 PM41 (Q' := _) rfl rfl rfl rfl (sp_X2_set_10_5 L xs sio (d + 0) dt34 hI35  p6 (by first | exact h_p6 | exact bnd h_p6 (by decide) (by decide) | exact ⟨by fail, by fail⟩) ) ?_
    rintro _ _ ⟨rfl, h45⟩
    refine ⟨rfl, ?_⟩
    rcases h45 with ⟨rfl, h45⟩
    have r46 : 0 ≤ dt34 10 3 ∧ dt34 10 3 ≤ 40 := InvC_get hI35 10 3 rfl rfl
    refine go_retq PM40 (k := 4) (r := some (.inl ((dt34 10 3) - 1))) (w1 := (SH, dt34)) rfl ?_
    exact ⟨dt34, rfl, hI35, hF37, (Or.inr ⟨_, rfl, ⟨by omega, by omega⟩, ⟨by first | exact True.intro | with_reducible assumption | rfl | omega | trivial, by first | exact True.intro | with_reducible assumption | rfl | omega | trivial, by first | exact True.intro | with_reducible assumption | rfl | omega | trivial, by assumption, by assumption, by assumption, by assumption, by assumption⟩⟩)⟩
theorem sp_X5_child_f (L : Nat) (xs : Nat → Int32) (sio : Option Nat) (d : Nat) (dt : Nat → Nat → Int) (hI : InvC dt)  (p1 : Int) (h_p1 : (-2147483648) ≤ p1 ∧ p1 ≤ 2147483647) (p2 : Int) (h_p2 : (-2147483648) ≤ p2 ∧ p2 ≤ 2147483647) (p3 : Int) (h_p3 : (-2147483648) ≤ p3 ∧ p3 ≤ 2147483647) (p4 : Int) (h_p4 : (-2147483648) ≤ p4 ∧ p4 ≤ 2147483647)  : GO (am_XX L xs sio) (d + 2) 77 0 [some (.inr (.inr (some 0))), some (.inl p1), some (.inl p2), some (.inl p3), some (.inl p4)] [] (SH, dt) (fun r w2 => ∃ dt2 : Nat → Nat → Int, w2 = (SH, dt2) ∧ InvC dt2 ∧ Fr [10, 11] dt dt2 ∧ ((r = some (.inl (-1)) ∧ (¬ ((0 ≤ p1 ∧ p1 ≤ 3) ∧ (0 ≤ p2 ∧ p2 ≤ 120) ∧ (0 ≤ p3 ∧ p3 ≤ 9) ∧ (0 ≤ p4 ∧ p4 ≤ 1) ∧ dt 10 3 < 40)) ∧ (dt2 10 3 = dt 10 3) ∧ (∀ j : Nat, dt2 11 j = dt 11 j)) ∨ (∃ v : Int, r = some (.inl v) ∧ ((-2147483648) ≤ v ∧ v ≤ 2147483647) ∧ (v = dt 10 3) ∧ ((0 ≤ p1 ∧ p1 ≤ 3) ∧ (0 ≤ p2 ∧ p2 ≤ 120) ∧ (0 ≤ p3 ∧ p3 ≤ 9) ∧ (0 ≤ p4 ∧ p4 ≤ 1) ∧ dt 10 3 < 40) ∧ (dt2 10 3 = dt 10 3 + 1) ∧ (∀ j : Nat, (j : Int) < 4 * dt 10 3 → dt2 11 j = dt 11 j) ∧ (dt2 11 (((dt 10 3) * 4) + 0).toNat = p1) ∧ (dt2 11 (((dt 10 3) * 4) + 1).toNat = p2) ∧ (dt2 11 (((dt 10 3) * 4) + 2).toNat = p3) ∧ (dt2 11 (((dt 10 3) * 4) + 3).toNat = p4)))) := by
  have hF : Fr [10, 11] dt dt := Fr_refl
  have r1 : 0 ≤ dt 10 3 ∧ dt 10 3 ≤ 40 := InvC_get hI 10 3 rfl rfl
  refine go_toq PM77 (k := 1) (pc' := 1) (L' := [some (.inr (.inr (some 0))), some (.inl p1), some (.inl p2), some (.inl p3), some (.inl p4)]) (st' := [.inl p1]) (w' := (SH, dt)) rfl ?_
  refine go_callq PM77 PM103 (Q' := _) rfl rfl rfl rfl (sp_X5_isLaw L xs sio (d + 0) dt hI  p1 (by first | exact h_p1 | exact bnd h_p1 (by decide) (by decide) | exact ⟨by fail, by fail⟩) ) ?_
  rintro _ _ ⟨rfl, h2⟩
  refine ⟨rfl, ?_⟩
  rcases h2 with ⟨rfl, h2⟩ | ⟨rfl, h2⟩
  · skip
    refine go_toq PM77 (k := 4) (pc' := 11) (L' := [some (.inr (.inr (some 0))), some (.inl p1), some (.inl p2), some (.inl p3), some (.inl p4)]) (st' := [.inl 120, .inl 0, .inl p2]) (w' := (SH, dt)) rfl ?_
    refine go_callq PM77 PM100 (Q' := _) rfl rfl rfl rfl (sp_X5_within L xs sio (d + 1) dt hI  p2 (by first | exact h_p2 | exact bnd h_p2 (by decide) (by decide) | exact ⟨by fail, by fail⟩) 0 ⟨by decide, by decide⟩ 120 ⟨by decide, by decide⟩ ) ?_
    rintro _ _ ⟨rfl, h3⟩
    refine ⟨rfl, ?_⟩
    rcases h3 with ⟨rfl, h3⟩ | ⟨rfl, h3⟩
    · skip
      refine go_toq PM77 (k := 4) (pc' := 21) (L' := [some (.inr (.inr (some 0))), some (.inl p1), some (.inl p2), some (.inl p3), some (.inl p4)]) (st' := [.inl 9, .inl 0, .inl p3]) (w' := (SH, dt)) rfl ?_
      refine go_callq PM77 PM100 (Q' := _) rfl rfl rfl rfl (sp_X5_within L xs sio (d + 1) dt hI  p3 (by first | exact h_p3 | exact bnd h_p3 (by decide) (by decide) | exact ⟨by fail, by fail⟩) 0 ⟨by decide, by decide⟩ 9 ⟨by decide, by decide⟩ ) ?_
      rintro _ _ ⟨rfl, h4⟩
      refine ⟨rfl, ?_⟩
      rcases h4 with ⟨rfl, h4⟩ | ⟨rfl, h4⟩
      · skip
        refine go_toq PM77 (k := 4) (pc' := 31) (L' := [some (.inr (.inr (some 0))), some (.inl p1), some (.inl p2), some (.inl p3), some (.inl p4)]) (st' := [.inl 1, .inl 0, .inl p4]) (w' := (SH, dt)) rfl ?_
        refine go_callq PM77 PM100 (Q' := _) rfl rfl rfl rfl (sp_X5_within L xs sio (d + 1) dt hI  p4 (by first | exact h_p4 | exact bnd h_p4 (by decide) (by decide) | exact ⟨by fail, by fail⟩) 0 ⟨by decide, by decide⟩ 1 ⟨by decide, by decide⟩ ) ?_
        rintro _ _ ⟨rfl, h5⟩
        refine ⟨rfl, ?_⟩
        rcases h5 with ⟨rfl, h5⟩ | ⟨rfl, h5⟩
        · skip
          refine go_toq PM77 (k := 10) (pc' := 53) (L' := [some (.inr (.inr (some 0))), some (.inl p1), some (.inl p2), some (.inl p3), some (.inl p4)]) (st' := [.inl 0, .inl 0, .inl p4, .inl p3, .inl p2, .inl p1, .inr (.inr (some 10))]) (w' := (SH, dt)) rfl ?_
          refine go_callq PM77 PM40 (Q' := _) rfl rfl rfl rfl (sp_X2_add_10f L xs sio (d + 0) dt hI  p1 (by first | exact h_p1 | exact bnd h_p1 (by decide) (by decide) | exact ⟨by fail, by fail⟩) p2 (by first | exact h_p2 | exact bnd h_p2 (by decide) (by decide) | exact ⟨by fail, by fail⟩) p3 (by first | exact h_p3 | exact bnd h_p3 (by decide) (by decide) | exact ⟨by fail, by fail⟩) p4 (by first | exact h_p4 | exact bnd h_p4 (by decide) (by decide) | exact ⟨by fail, by fail⟩) 0 ⟨by decide, by decide⟩ 0 ⟨by decide, by decide⟩ ) ?_
          rintro _ _ ⟨dt7, rfl, hI8, hF9, h6⟩
          refine ⟨rfl, ?_⟩
          have hF10 : Fr [10, 11] dt dt7 := Fr_tr hF hF9 (by decide)
          rcases h6 with ⟨rfl, h6⟩ | ⟨v_h6, rfl, h6r, h6⟩
          · skip
            obtain ⟨h6_0, h6_1, h6_2⟩ := h6
            refine go_retq PM77 (k := 0) (r := some (.inl (-1))) (w1 := (SH, dt7)) rfl ?_
            first | exact ⟨dt7, rfl, hI8, hF10, (Or.inl ⟨rfl, ⟨by first | exact True.intro | with_reducible assumption | rfl | omega | trivial, by first | exact True.intro | with_reducible assumption | rfl | fail | trivial, by first | exact fun _ => rfl | assumption⟩⟩)⟩ | exact ⟨dt7, rfl, hI8, hF10, (Or.inr ⟨_, rfl, ⟨by decide, by decide⟩, ⟨by first | exact True.intro | with_reducible assumption | rfl | fail | trivial, by first | exact True.intro | with_reducible assumption | rfl | fail | trivial, by first | exact True.intro | with_reducible assumption | rfl | fail | trivial, by assumption, by assumption, by assumption, by assumption, by assumption⟩⟩)⟩
          · skip
            obtain ⟨h6_0, h6_1, h6_2, h6_3, h6_4, h6_5, h6_6, h6_7⟩ := h6
            refine go_retq PM77 (k := 0) (r := some (.inl v_h6)) (w1 := (SH, dt7)) rfl ?_
            exact ⟨dt7, rfl, hI8, hF10, (Or.inr ⟨_, rfl, (by first | exact bnd h6r (by decide) (by decide) | exact ⟨by fail, by fail⟩), ⟨by first | exact True.intro | with_reducible assumption | rfl | fail | trivial, by first | exact True.intro | with_reducible assumption | rfl | omega | trivial, by first | exact True.intro | with_reducible assumption | rfl | fail | trivial, by assumption, by assumption, by assumption, by assumption, by assumption⟩⟩)⟩
        · skip
          refine go_retq PM77 (k := 2) (r := some (.inl (-1))) (w1 := (SH, dt)) rfl ?_
          first | exact ⟨dt, rfl, hI, hF, (Or.inl ⟨rfl, ⟨by first | exact True.intro | with_reducible assumption | rfl | omega | trivial, by first | exact True.intro | with_reducible assumption | rfl | fail | trivial, by first | exact fun _ => rfl | assumption⟩⟩)⟩ | exact ⟨dt, rfl, hI, hF, (Or.inr ⟨_, rfl, ⟨by decide, by decide⟩, ⟨by first | exact True.intro | with_reducible assumption | rfl | fail | trivial, by first | exact True.intro | with_reducible assumption | rfl | fail | trivial, by first | exact True.intro | with_reducible assumption | rfl | fail | trivial, by assumption, by assumption, by assumption, by assumption, by assumption⟩⟩)⟩
      · skip
        refine go_retq PM77 (k := 2) (r := some (.inl (-1))) (w1 := (SH, dt)) rfl ?_
        first | exact ⟨dt, rfl, hI, hF, (Or.inl ⟨rfl, ⟨by first | exact True.intro | with_reducible assumption | rfl | omega | trivial, by first | exact True.intro | with_reducible assumption | rfl | fail | trivial, by first | exact fun _ => rfl | assumption⟩⟩)⟩ | exact ⟨dt, rfl, hI, hF, (Or.inr ⟨_, rfl, ⟨by decide, by decide⟩, ⟨by first | exact True.intro | with_reducible assumption | rfl | fail | trivial, by first | exact True.intro | with_reducible assumption | rfl | fail | trivial, by first | exact True.intro | with_reducible assumption | rfl | fail | trivial, by assumption, by assumption, by assumption, by assumption, by assumption⟩⟩)⟩
    · skip
      refine go_retq PM77 (k := 2) (r := some (.inl (-1))) (w1 := (SH, dt)) rfl ?_
      first | exact ⟨dt, rfl, hI, hF, (Or.inl ⟨rfl, ⟨by first | exact True.intro | with_reducible assumption | rfl | omega | trivial, by first | exact True.intro | with_reducible assumption | rfl | fail | trivial, by first | exact fun _ => rfl | assumption⟩⟩)⟩ | exact ⟨dt, rfl, hI, hF, (Or.inr ⟨_, rfl, ⟨by decide, by decide⟩, ⟨by first | exact True.intro | with_reducible assumption | rfl | fail | trivial, by first | exact True.intro | with_reducible assumption | rfl | fail | trivial, by first | exact True.intro | with_reducible assumption | rfl | fail | trivial, by assumption, by assumption, by assumption, by assumption, by assumption⟩⟩)⟩
  · skip
    refine go_retq PM77 (k := 2) (r := some (.inl (-1))) (w1 := (SH, dt)) rfl ?_
    first | exact ⟨dt, rfl, hI, hF, (Or.inl ⟨rfl, ⟨by first | exact True.intro | with_reducible assumption | rfl | omega | trivial, by first | exact True.intro | with_reducible assumption | rfl | fail | trivial, by first | exact fun _ => rfl | assumption⟩⟩)⟩ | exact ⟨dt, rfl, hI, hF, (Or.inr ⟨_, rfl, ⟨by decide, by decide⟩, ⟨by first | exact True.intro | with_reducible assumption | rfl | fail | trivial, by first | exact True.intro | with_reducible assumption | rfl | fail | trivial, by first | exact True.intro | with_reducible assumption | rfl | fail | trivial, by assumption, by assumption, by assumption, by assumption, by assumption⟩⟩)⟩
theorem sp_X2_copyFrom_10f (L : Nat) (xs : Nat → Int32) (sio : Option Nat) (d : Nat) (dt : Nat → Nat → Int) (hI : InvC dt)    : GO (am_XX L xs sio) (d + 1) 42 0 [some (.inr (.inr (some 10))), some (.inr (.inr (some 27)))] [] (SH, dt) (fun r w2 => ∃ dt2 : Nat → Nat → Int, w2 = (SH, dt2) ∧ InvC dt2 ∧ Fr [10, 11] dt dt2 ∧ ((r = none ∧ (dt2 10 3 = dt 27 3) ∧ (∀ j : Nat, j < 160 → dt2 11 j = dt 28 j)))) := by
  have hF : Fr [10, 11] dt dt := Fr_refl
  have r1 : 0 ≤ dt 27 3 ∧ dt 27 3 ≤ 40 := InvC_get hI 27 3 rfl rfl
  refine go_toq PM42 (k := 4) (pc' := 6) (L' := [some (.inr (.inr (some 10))), some (.inr (.inr (some 27)))]) (st' := [.inr (.inr (some 10)), .inl (dt 27 3), .inr (.inr (some 10))]) (w' := (SH, dt)) rfl ?_
  refine go_smpq PM42 (L' := [some (.inr (.inr (some 10))), some (.inr (.inr (some 27)))]) (st' := [.inl 40, .inl (dt 27 3), .inr (.inr (some 10))]) (w' := (SH, dt)) rfl rfl (s_gfc rfl rfl rfl (hI.2 10 0 rfl)) ?_
  refine go_callq PM42 PM266 (Q' := _) rfl rfl rfl rfl (sp_J9_min_7cf53 L xs sio (d + 0) dt hI  (dt 27 3) (by first | exact bnd r1 (by decide) (by decide) | exact ⟨by fail, by fail⟩) 40 ⟨by decide, by decide⟩ ) ?_
  rintro _ _ ⟨rfl, h2⟩
  refine ⟨rfl, ?_⟩
  rcases h2 with ⟨v_h2, rfl, h2r, h2⟩
  have hI3 : InvC (u2 dt 10 3 v_h2) := InvC_u2 hI (lo := 0) (hi := 40) rfl rfl rfl (by first | exact bnd1 h2r (by decide) | omega) (by first | exact bnd2 h2r (by decide) | omega)
  have hF4 : Fr [10, 11] dt (u2 dt 10 3 v_h2) := Fr_u2 hF (by decide)
  have w5 : (u2 dt 10 3 v_h2) 10 3 = v_h2 := rfl
  refine go_smpq PM42 (L' := [some (.inr (.inr (some 10))), some (.inr (.inr (some 27)))]) (st' := []) (w' := (SH, (u2 dt 10 3 v_h2))) rfl rfl (s_pf rfl rfl rfl rfl ⟨by omega, by omega⟩) ?_
  refine go_toq PM42 (k := 12) (pc' := 35) (L' := [some (.inr (.inr (some 10))), some (.inr (.inr (some 27)))]) (st' := [.inl 160, .inl 160, .inl 0, .inr (.inr (some 11)), .inl 0, .inr (.inr (some 28))]) (w' := (SH, (u2 dt 10 3 v_h2))) rfl ?_
  refine go_callq PM42 PM266 (Q' := _) rfl rfl rfl rfl (sp_J9_min_7cf53 L xs sio (d + 0) (u2 dt 10 3 v_h2) hI3  160 ⟨by decide, by decide⟩ 160 ⟨by decide, by decide⟩ ) ?_
  rintro _ _ ⟨rfl, h6⟩
  refine ⟨rfl, ?_⟩
  rcases h6 with ⟨v_h6, rfl, h6r, h6⟩
  have hI7 : InvC (am_cp (u2 dt 10 3 v_h2) 28 11 0 0 (v_h6).toNat) := InvC_cp hI3 (fun _ _ => rfl) (fun _ _ => rfl) (fun _ => rfl)
  have hF8 : Fr [10, 11] dt (am_cp (u2 dt 10 3 v_h2) 28 11 0 0 (v_h6).toNat) := Fr_cp hF4 (by decide)
  have w9 : (am_cp (u2 dt 10 3 v_h2) 28 11 0 0 (v_h6).toNat) 10 3 = (u2 dt 10 3 v_h2) 10 3 := rfl
  refine go_cpyq PM42 (L' := [some (.inr (.inr (some 10))), some (.inr (.inr (some 27)))]) (st' := []) (w' := (SH, (am_cp (u2 dt 10 3 v_h2) 28 11 0 0 (v_h6).toNat))) rfl rfl (s_cpy (n0 := 160) (n1 := 160) rfl rfl ⟨⟨by omega, by omega, by omega⟩, by omega, by omega, by decide⟩) ?_
  refine go_retq PM42 (k := 0) (r := none) (w1 := (SH, (am_cp (u2 dt 10 3 v_h2) 28 11 0 0 (v_h6).toNat))) rfl ?_
  exact ⟨(am_cp (u2 dt 10 3 v_h2) 28 11 0 0 (v_h6).toNat), rfl, hI7, hF8, ⟨rfl, ⟨by first | exact True.intro | with_reducible assumption | rfl | omega | trivial, by intro j hj; exact (cp_atv (by omega)).trans rfl⟩⟩⟩
theorem sp_X2_copyFrom_27f (L : Nat) (xs : Nat → Int32) (sio : Option Nat) (d : Nat) (dt : Nat → Nat → Int) (hI : InvC dt)    : GO (am_XX L xs sio) (d + 1) 42 0 [some (.inr (.inr (some 27))), some (.inr (.inr (some 10)))] [] (SH, dt) (fun r w2 => ∃ dt2 : Nat → Nat → Int, w2 = (SH, dt2) ∧ InvC dt2 ∧ Fr [27, 28] dt dt2 ∧ ((r = none ∧ (dt2 27 3 = dt 10 3) ∧ (∀ j : Nat, j < 160 → dt2 28 j = dt 11 j)))) := by
  have hF : Fr [27, 28] dt dt := Fr_refl
  have r1 : 0 ≤ dt 10 3 ∧ dt 10 3 ≤ 40 := InvC_get hI 10 3 rfl rfl
  refine go_toq PM42 (k := 4) (pc' := 6) (L' := [some (.inr (.inr (some 27))), some (.inr (.inr (some 10)))]) (st' := [.inr (.inr (some 27)), .inl (dt 10 3), .inr (.inr (some 27))]) (w' := (SH, dt)) rfl ?_
  refine go_smpq PM42 (L' := [some (.inr (.inr (some 27))), some (.inr (.inr (some 10)))]) (st' := [.inl 40, .inl (dt 10 3), .inr (.inr (some 27))]) (w' := (SH, dt)) rfl rfl (s_gfc rfl rfl rfl (hI.2 27 0 rfl)) ?_
  refine go_callq PM42 PM266 (Q' := _) rfl rfl rfl rfl (sp_J9_min_7cf53 L xs sio (d + 0) dt hI  (dt 10 3) (by first | exact bnd r1 (by decide) (by decide) | exact ⟨by fail, by fail⟩) 40 ⟨by decide, by decide⟩ ) ?_
  rintro _ _ ⟨rfl, h2⟩
  refine ⟨rfl, ?_⟩
  rcases h2 with ⟨v_h2, rfl, h2r, h2⟩
  have hI3 : InvC (u2 dt 27 3 v_h2) := InvC_u2 hI (lo := 0) (hi := 40) rfl rfl rfl (by first | exact bnd1 h2r (by decide) | omega) (by first | exact bnd2 h2r (by decide) | omega)
  have hF4 : Fr [27, 28] dt (u2 dt 27 3 v_h2) := Fr_u2 hF (by decide)
  have w5 : (u2 dt 27 3 v_h2) 27 3 = v_h2 := rfl
  refine go_smpq PM42 (L' := [some (.inr (.inr (some 27))), some (.inr (.inr (some 10)))]) (st' := []) (w' := (SH, (u2 dt 27 3 v_h2))) rfl rfl (s_pf rfl rfl rfl rfl ⟨by omega, by omega⟩) ?_
  refine go_toq PM42 (k := 12) (pc' := 35) (L' := [some (.inr (.inr (some 27))), some (.inr (.inr (some 10)))]) (st' := [.inl 160, .inl 160, .inl 0, .inr (.inr (some 28)), .inl 0, .inr (.inr (some 11))]) (w' := (SH, (u2 dt 27 3 v_h2))) rfl ?_
  refine go_callq PM42 PM266 (Q' := _) rfl rfl rfl rfl (sp_J9_min_7cf53 L xs sio (d + 0) (u2 dt 27 3 v_h2) hI3  160 ⟨by decide, by decide⟩ 160 ⟨by decide, by decide⟩ ) ?_
  rintro _ _ ⟨rfl, h6⟩
  refine ⟨rfl, ?_⟩
  rcases h6 with ⟨v_h6, rfl, h6r, h6⟩
  have hI7 : InvC (am_cp (u2 dt 27 3 v_h2) 11 28 0 0 (v_h6).toNat) := InvC_cp hI3 (fun _ _ => rfl) (fun _ _ => rfl) (fun _ => rfl)
  have hF8 : Fr [27, 28] dt (am_cp (u2 dt 27 3 v_h2) 11 28 0 0 (v_h6).toNat) := Fr_cp hF4 (by decide)
  have w9 : (am_cp (u2 dt 27 3 v_h2) 11 28 0 0 (v_h6).toNat) 27 3 = (u2 dt 27 3 v_h2) 27 3 := rfl
  refine go_cpyq PM42 (L' := [some (.inr (.inr (some 27))), some (.inr (.inr (some 10)))]) (st' := []) (w' := (SH, (am_cp (u2 dt 27 3 v_h2) 11 28 0 0 (v_h6).toNat))) rfl rfl (s_cpy (n0 := 160) (n1 := 160) rfl rfl ⟨⟨by omega, by omega, by omega⟩, by omega, by omega, by decide⟩) ?_
  refine go_retq PM42 (k := 0) (r := none) (w1 := (SH, (am_cp (u2 dt 27 3 v_h2) 11 28 0 0 (v_h6).toNat))) rfl ?_
  exact ⟨(am_cp (u2 dt 27 3 v_h2) 11 28 0 0 (v_h6).toNat), rfl, hI7, hF8, ⟨rfl, ⟨by first | exact True.intro | with_reducible assumption | rfl | omega | trivial, by intro j hj; exact (cp_atv (by omega)).trans rfl⟩⟩⟩
