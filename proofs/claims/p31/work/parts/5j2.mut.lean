theorem sp_X2_copyFrom_12f (L : Nat) (xs : Nat → Int32) (sio : Option Nat) (d : Nat) (dt : Nat → Nat → Int) (hI : InvC dt)    : GO (am_XX L xs sio) (d + 1) 42 0 [some (.inr (.inr (some 12))), some (.inr (.inr (some 29)))] [] (SH, dt) (fun r w2 => ∃ dt2 : Nat → Nat → Int, w2 = (SH, dt2) ∧ InvC dt2 ∧ Fr [12, 13] dt dt2 ∧ ((r = none ∧ (dt2 12 3 = dt 29 3) ∧ (∀ j : Nat, j < 1800 → dt2 13 j = dt 30 j)))) := by
  have hF : Fr [12, 13] dt dt := Fr_refl
  have r1 : 0 ≤ dt 29 3 ∧ dt 29 3 ≤ 300 := InvC_get hI 29 3 rfl rfl
  refine go_toq PM42 (k := 4) (pc' := 6) (L' := [some (.inr (.inr (some 12))), some (.inr (.inr (some 29)))]) (st' := [.inr (.inr (some 12)), .inl (dt 29 3), .inr (.inr (some 12))]) (w' := (SH, dt)) rfl ?_
  refine go_smpq PM42 (L' := [some (.inr (.inr (some 12))), some (.inr (.inr (some 29)))]) (st' := [.inl 300, .inl (dt 29 3), .inr (.inr (some 12))]) (w' := (SH, dt)) rfl rfl (s_gfc rfl rfl rfl (hI.2 12 0 rfl)) ?_
  refine go_callq PM42 PM266 (Q' := _) rfl rfl rfl rfl (sp_J9_min_7cf53 L xs sio (d + 0) dt hI  (dt 29 3) (by first | exact bnd r1 (by decide) (by decide) | exact ⟨by omega, by omega⟩) 300 ⟨by decide, by decide⟩ ) ?_
  rintro _ _ ⟨rfl, h2⟩
  refine ⟨rfl, ?_⟩
  rcases h2 with ⟨v_h2, rfl, h2r, h2⟩
  have hI3 : InvC (u2 dt 12 3 v_h2) := InvC_u2 hI (lo := 0) (hi := 300) rfl rfl rfl (by first | exact bnd1 h2r (by decide) | omega) (by first | exact bnd2 h2r (by decide) | omega)
  have hF4 : Fr [12, 13] dt (u2 dt 12 3 v_h2) := Fr_u2 hF (by decide)
  have w5 : (u2 dt 12 3 v_h2) 12 3 = v_h2 := rfl
  refine go_smpq PM42 (L' := [some (.inr (.inr (some 12))), some (.inr (.inr (some 29)))]) (st' := []) (w' := (SH, (u2 dt 12 3 v_h2))) rfl rfl (s_pf rfl rfl rfl rfl ⟨by omega, by omega⟩) ?_
  refine go_toq PM42 (k := 12) (pc' := 35) (L' := [some (.inr (.inr (some 12))), some (.inr (.inr (some 29)))]) (st' := [.inl 1800, .inl 1800, .inl 0, .inr (.inr (some 13)), .inl 0, .inr (.inr (some 30))]) (w' := (SH, (u2 dt 12 3 v_h2))) rfl ?_
  refine go_callq PM42 PM266 (Q' := _) rfl rfl rfl rfl (sp_J9_min_7cf53 L xs sio (d + 0) (u2 dt 12 3 v_h2) hI3  1800 ⟨by decide, by decide⟩ 1800 ⟨by decide, by decide⟩ ) ?_
  rintro _ _ ⟨rfl, h6⟩
  refine ⟨rfl, ?_⟩
  rcases h6 with ⟨v_h6, rfl, h6r, h6⟩
  have hI7 : InvC (am_cp (u2 dt 12 3 v_h2) 30 13 0 0 (v_h6).toNat) := InvC_cp hI3 (fun _ _ => rfl) (fun _ _ => rfl) (fun _ => rfl)
  have hF8 : Fr [12, 13] dt (am_cp (u2 dt 12 3 v_h2) 30 13 0 0 (v_h6).toNat) := Fr_cp hF4 (by decide)
  have w9 : (am_cp (u2 dt 12 3 v_h2) 30 13 0 0 (v_h6).toNat) 12 3 = (u2 dt 12 3 v_h2) 12 3 := rfl
  refine go_cpyq PM42 (L' := [some (.inr (.inr (some 12))), some (.inr (.inr (some 29)))]) (st' := []) (w' := (SH, (am_cp (u2 dt 12 3 v_h2) 30 13 0 0 (v_h6).toNat))) rfl rfl (s_cpy (n0 := 1800) (n1 := 1800) rfl rfl ⟨⟨by omega, by omega, by omega⟩, by omega, by omega, by decide⟩) ?_
  refine go_retq PM42 (k := 0) (r := none) (w1 := (SH, (am_cp (u2 dt 12 3 v_h2) 30 13 0 0 (v_h6).toNat))) rfl ?_
  exact ⟨(am_cp (u2 dt 12 3 v_h2) 30 13 0 0 (v_h6).toNat), rfl, hI7, hF8, ⟨rfl, ⟨by first | exact True.intro | with_reducible assumption | rfl | omega | trivial, by intro j hj; exact (cp_atv (by omega)).trans rfl⟩⟩⟩
theorem sp_X2_copyFrom_29f (L : Nat) (xs : Nat → Int32) (sio : Option Nat) (d : Nat) (dt : Nat → Nat → Int) (hI : InvC dt)    : GO (am_XX L xs sio) (d + 1) 42 0 [some (.inr (.inr (some 29))), some (.inr (.inr (some 12)))] [] (SH, dt) (fun r w2 => ∃ dt2 : Nat → Nat → Int, w2 = (SH, dt2) ∧ InvC dt2 ∧ Fr [29, 30] dt dt2 ∧ ((r = none ∧ (dt2 29 3 = dt 12 3) ∧ (∀ j : Nat, j < 1800 → dt2 30 j = dt 13 j)))) := by
  have hF : Fr [29, 30] dt dt := Fr_refl
  have r1 : 0 ≤ dt 12 3 ∧ dt 12 3 ≤ 300 := InvC_get hI 12 3 rfl rfl
  refine go_toq PM42 (k := 4) (pc' := 6) (L' := [some (.inr (.inr (some 29))), some (.inr (.inr (some 12)))]) (st' := [.inr (.inr (some 29)), .inl (dt 12 3), .inr (.inr (some 29))]) (w' := (SH, dt)) rfl ?_
  refine go_smpq PM42 (L' := [some (.inr (.inr (some 29))), some (.inr (.inr (some 12)))]) (st' := [.inl 300, .inl (dt 12 3), .inr (.inr (some 29))]) (w' := (SH, dt)) rfl rfl (s_gfc rfl rfl rfl (hI.2 29 0 rfl)) ?_
  refine go_callq PM42 PM266 (Q' := _) rfl rfl rfl rfl (sp_J9_min_7cf53 L xs sio (d + 0) dt hI  (dt 12 3) (by first | exact bnd r1 (by decide) (by decide) | exact ⟨by omega, by omega⟩) 300 ⟨by decide, by decide⟩ ) ?_
  rintro _ _ ⟨rfl, h2⟩
  refine ⟨rfl, ?_⟩
  rcases h2 with ⟨v_h2, rfl, h2r, h2⟩
  have hI3 : InvC (u2 dt 29 3 v_h2) := InvC_u2 hI (lo := 0) (hi := 300) rfl rfl rfl (by first | exact bnd1 h2r (by decide) | omega) (by first | exact bnd2 h2r (by decide) | omega)
  have hF4 : Fr [29, 30] dt (u2 dt 29 3 v_h2) := Fr_u2 hF (by decide)
  have w5 : (u2 dt 29 3 v_h2) 29 3 = v_h2 := rfl
  refine go_smpq PM42 (L' := [some (.inr (.inr (some 29))), some (.inr (.inr (some 12)))]) (st' := []) (w' := (SH, (u2 dt 29 3 v_h2))) rfl rfl (s_pf rfl rfl rfl rfl ⟨by omega, by omega⟩) ?_
  refine go_toq PM42 (k := 12) (pc' := 35) (L' := [some (.inr (.inr (some 29))), some (.inr (.inr (some 12)))]) (st' := [.inl 1800, .inl 1800, .inl 0, .inr (.inr (some 30)), .inl 0, .inr (.inr (some 13))]) (w' := (SH, (u2 dt 29 3 v_h2))) rfl ?_
  refine go_callq PM42 PM266 (Q' := _) rfl rfl rfl rfl (sp_J9_min_7cf53 L xs sio (d + 0) (u2 dt 29 3 v_h2) hI3  1800 ⟨by decide, by decide⟩ 1800 ⟨by decide, by decide⟩ ) ?_
  rintro _ _ ⟨rfl, h6⟩
  refine ⟨rfl, ?_⟩
  rcases h6 with ⟨v_h6, rfl, h6r, h6⟩
  have hI7 : InvC (am_cp (u2 dt 29 3 v_h2) 13 30 0 0 (v_h6).toNat) := InvC_cp hI3 (fun _ _ => rfl) (fun _ _ => rfl) (fun _ => rfl)
  have hF8 : Fr [29, 30] dt (am_cp (u2 dt 29 3 v_h2) 13 30 0 0 (v_h6).toNat) := Fr_cp hF4 (by decide)
  have w9 : (am_cp (u2 dt 29 3 v_h2) 13 30 0 0 (v_h6).toNat) 29 3 = (u2 dt 29 3 v_h2) 29 3 := rfl
  refine go_cpyq PM42 (L' := [some (.inr (.inr (some 29))), some (.inr (.inr (some 12)))]) (st' := []) (w' := (SH, (am_cp (u2 dt 29 3 v_h2) 13 30 0 0 (v_h6).toNat))) rfl rfl (s_cpy (n0 := 1800) (n1 := 1800) rfl rfl ⟨⟨by omega, by omega, by omega⟩, by omega, by omega, by decide⟩) ?_
  refine go_retq PM42 (k := 0) (r := none) (w1 := (SH, (am_cp (u2 dt 29 3 v_h2) 13 30 0 0 (v_h6).toNat))) rfl ?_
  exact ⟨(am_cp (u2 dt 29 3 v_h2) 13 30 0 0 (v_h6).toNat), rfl, hI7, hF8, ⟨rfl, ⟨by first | exact True.intro | with_reducible assumption | rfl | omega | trivial, by intro j hj; exact (cp_atv (by omega)).trans rfl⟩⟩⟩
theorem sp_X0_copyFrom_1a (L : Nat) (xs : Nat → Int32) (sio : Option Nat) (d : Nat) (dt : Nat → Nat → Int) (hI : InvC dt)    : GO (am_XX L xs sio) (d + 2) 4 0 [some (.inr (.inr (some 1))), some (.inr (.inr (some 18)))] [] (SH, dt) (fun r w2 => ∃ dt2 : Nat → Nat → Int, w2 = (SH, dt2) ∧ InvC dt2 ∧ Fr [1, 2, 3, 4, 5, 6, 7, 8, 9, 10, 11, 12, 13, 14, 15, 16, 17] dt dt2 ∧ ((r = none ∧ (dt2 1 0 = dt 18 0) ∧ (dt2 7 3 = dt 24 3) ∧ (dt2 10 3 = dt 27 3) ∧ (dt2 12 3 = dt 29 3) ∧ (dt2 14 3 = dt 31 3) ∧ (dt2 16 3 = dt 33 3) ∧ (∀ j : Nat, j < 192 → dt2 2 j = dt 19 j) ∧ (∀ j : Nat, j < 8 → dt2 3 j = dt 20 j) ∧ (∀ j : Nat, j < 256 → dt2 4 j = dt 21 j) ∧ (∀ j : Nat, j < 4 → dt2 5 j = dt 22 j) ∧ (∀ j : Nat, j < 2000 → dt2 6 j = dt 23 j) ∧ (∀ j : Nat, j < 60 → dt2 8 j = dt 25 j) ∧ (∀ j : Nat, j < 132 → dt2 9 j = dt 26 j) ∧ (∀ j : Nat, j < 160 → dt2 11 j = dt 28 j) ∧ (∀ j : Nat, j < 1800 → dt2 13 j = dt 30 j)))) := by
  have hF : Fr [1, 2, 3, 4, 5, 6, 7, 8, 9, 10, 11, 12, 13, 14, 15, 16, 17] dt dt := Fr_refl
  have r1 : (-2147483648) ≤ dt 18 0 ∧ dt 18 0 ≤ 2147483647 := InvC_get hI 18 0 rfl rfl
  refine go_toq PM4 (k := 3) (pc' := 5) (L' := [some (.inr (.inr (some 1))), some (.inr (.inr (some 18)))]) (st' := [.inl (dt 18 0), .inr (.inr (some 1))]) (w' := (SH, dt)) rfl ?_
  have hI2 : InvC (u2 dt 1 0 (dt 18 0)) := InvC_u2 hI (lo := -2147483648) (hi := 2147483647) rfl rfl rfl (by first | exact bnd1 r1 (by decide) | omega) (by first | exact bnd2 r1 (by decide) | omega)
  have hF3 : Fr [1, 2, 3, 4, 5, 6, 7, 8, 9, 10, 11, 12, 13, 14, 15, 16, 17] dt (u2 dt 1 0 (dt 18 0)) := Fr_u2 hF (by decide)
  have w4 : (u2 dt 1 0 (dt 18 0)) 1 0 = dt 18 0 := rfl
  have w5 : (u2 dt 1 0 (dt 18 0)) 7 3 = dt 7 3 := rfl
  have w6 : (u2 dt 1 0 (dt 18 0)) 10 3 = dt 10 3 := rfl
  have w7 : (u2 dt 1 0 (dt 18 0)) 12 3 = dt 12 3 := rfl
  have w8 : (u2 dt 1 0 (dt 18 0)) 14 3 = dt 14 3 := rfl
  have w9 : (u2 dt 1 0 (dt 18 0)) 16 3 = dt 16 3 := rfl
  have w10 : (u2 dt 1 0 (dt 18 0)) 18 0 = dt 18 0 := rfl
  have w11 : (u2 dt 1 0 (dt 18 0)) 24 3 = dt 24 3 := rfl
  have w12 : (u2 dt 1 0 (dt 18 0)) 27 3 = dt 27 3 := rfl
  have w13 : (u2 dt 1 0 (dt 18 0)) 29 3 = dt 29 3 := rfl
  have w14 : (u2 dt 1 0 (dt 18 0)) 31 3 = dt 31 3 := rfl
  have w15 : (u2 dt 1 0 (dt 18 0)) 33 3 = dt 33 3 := rfl
  refine go_smpq PM4 (L' := [some (.inr (.inr (some 1))), some (.inr (.inr (some 18)))]) (st' := []) (w' := (SH, (u2 dt 1 0 (dt 18 0)))) rfl rfl (s_pf rfl rfl rfl rfl (by first | exact bnd r1 (by decide) (by decide) | exact ⟨by omega, by omega⟩)) ?_
  refine go_toq PM4 (k := 9) (pc' := 23) (L' := [some (.inr (.inr (some 1))), some (.inr (.inr (some 18)))]) (st' := [.inl 192, .inl 0, .inr (.inr (some 2)), .inl 0, .inr (.inr (some 19))]) (w' := (SH, (u2 dt 1 0 (dt 18 0)))) rfl ?_
  have hI16 : InvC (am_cp (u2 dt 1 0 (dt 18 0)) 19 2 0 0 192) := InvC_cp hI2 (fun _ _ => rfl) (fun _ _ => rfl) (fun _ => rfl)
  have hF17 : Fr [1, 2, 3, 4, 5, 6, 7, 8, 9, 10, 11, 12, 13, 14, 15, 16, 17] dt (am_cp (u2 dt 1 0 (dt 18 0)) 19 2 0 0 192) := Fr_cp hF3 (by decide)
  have w18 : (am_cp (u2 dt 1 0 (dt 18 0)) 19 2 0 0 192) 1 0 = (u2 dt 1 0 (dt 18 0)) 1 0 := rfl
  have w19 : (am_cp (u2 dt 1 0 (dt 18 0)) 19 2 0 0 192) 7 3 = (u2 dt 1 0 (dt 18 0)) 7 3 := rfl
  have w20 : (am_cp (u2 dt 1 0 (dt 18 0)) 19 2 0 0 192) 10 3 = (u2 dt 1 0 (dt 18 0)) 10 3 := rfl
  have w21 : (am_cp (u2 dt 1 0 (dt 18 0)) 19 2 0 0 192) 12 3 = (u2 dt 1 0 (dt 18 0)) 12 3 := rfl
  have w22 : (am_cp (u2 dt 1 0 (dt 18 0)) 19 2 0 0 192) 14 3 = (u2 dt 1 0 (dt 18 0)) 14 3 := rfl
  have w23 : (am_cp (u2 dt 1 0 (dt 18 0)) 19 2 0 0 192) 16 3 = (u2 dt 1 0 (dt 18 0)) 16 3 := rfl
  have w24 : (am_cp (u2 dt 1 0 (dt 18 0)) 19 2 0 0 192) 18 0 = (u2 dt 1 0 (dt 18 0)) 18 0 := rfl
  have w25 : (am_cp (u2 dt 1 0 (dt 18 0)) 19 2 0 0 192) 24 3 = (u2 dt 1 0 (dt 18 0)) 24 3 := rfl
  have w26 : (am_cp (u2 dt 1 0 (dt 18 0)) 19 2 0 0 192) 27 3 = (u2 dt 1 0 (dt 18 0)) 27 3 := rfl
  have w27 : (am_cp (u2 dt 1 0 (dt 18 0)) 19 2 0 0 192) 29 3 = (u2 dt 1 0 (dt 18 0)) 29 3 := rfl
  have w28 : (am_cp (u2 dt 1 0 (dt 18 0)) 19 2 0 0 192) 31 3 = (u2 dt 1 0 (dt 18 0)) 31 3 := rfl
  have w29 : (am_cp (u2 dt 1 0 (dt 18 0)) 19 2 0 0 192) 33 3 = (u2 dt 1 0 (dt 18 0)) 33 3 := rfl
  have T30 : ∀ j : Nat, j < 192 → (am_cp (u2 dt 1 0 (dt 18 0)) 19 2 0 0 192) 2 j = dt 19 j := fun j hj => (cp_atv hj).trans (hF3 19 (by decide) j)
  refine go_cpyq PM4 (L' := [some (.inr (.inr (some 1))), some (.inr (.inr (some 18)))]) (st' := []) (w' := (SH, (am_cp (u2 dt 1 0 (dt 18 0)) 19 2 0 0 192))) rfl rfl (s_cpy (n0 := 192) (n1 := 192) rfl rfl ⟨⟨by omega, by omega, by omega⟩, by omega, by omega, by decide⟩) ?_
  refine go_toq PM4 (k := 9) (pc' := 41) (L' := [some (.inr (.inr (some 1))), some (.inr (.inr (some 18)))]) (st' := [.inl 8, .inl 0, .inr (.inr (some 3)), .inl 0, .inr (.inr (some 20))]) (w' := (SH, (am_cp (u2 dt 1 0 (dt 18 0)) 19 2 0 0 192))) rfl ?_
  have hI31 : InvC (am_cp (am_cp (u2 dt 1 0 (dt 18 0)) 19 2 0 0 192) 20 3 0 0 8) := InvC_cp hI16 (fun _ _ => rfl) (fun _ _ => rfl) (fun _ => rfl)
  have hF32 : Fr [1, 2, 3, 4, 5, 6, 7, 8, 9, 10, 11, 12, 13, 14, 15, 16, 17] dt (am_cp (am_cp (u2 dt 1 0 (dt 18 0)) 19 2 0 0 192) 20 3 0 0 8) := Fr_cp hF17 (by decide)
  have w33 : (am_cp (am_cp (u2 dt 1 0 (dt 18 0)) 19 2 0 0 192) 20 3 0 0 8) 1 0 = (am_cp (u2 dt 1 0 (dt 18 0)) 19 2 0 0 192) 1 0 := rfl
  have w34 : (am_cp (am_cp (u2 dt 1 0 (dt 18 0)) 19 2 0 0 192) 20 3 0 0 8) 7 3 = (am_cp (u2 dt 1 0 (dt 18 0)) 19 2 0 0 192) 7 3 := rfl
  have w35 : (am_cp (am_cp (u2 dt 1 0 (dt 18 0)) 19 2 0 0 192) 20 3 0 0 8) 10 3 = (am_cp (u2 dt 1 0 (dt 18 0)) 19 2 0 0 192) 10 3 := rfl
  have w36 : (am_cp (am_cp (u2 dt 1 0 (dt 18 0)) 19 2 0 0 192) 20 3 0 0 8) 12 3 = (am_cp (u2 dt 1 0 (dt 18 0)) 19 2 0 0 192) 12 3 := rfl
  have w37 : (am_cp (am_cp (u2 dt 1 0 (dt 18 0)) 19 2 0 0 192) 20 3 0 0 8) 14 3 = (am_cp (u2 dt 1 0 (dt 18 0)) 19 2 0 0 192) 14 3 := rfl
  have w38 : (am_cp (am_cp (u2 dt 1 0 (dt 18 0)) 19 2 0 0 192) 20 3 0 0 8) 16 3 = (am_cp (u2 dt 1 0 (dt 18 0)) 19 2 0 0 192) 16 3 := rfl
  have w39 : (am_cp (am_cp (u2 dt 1 0 (dt 18 0)) 19 2 0 0 192) 20 3 0 0 8) 18 0 = (am_cp (u2 dt 1 0 (dt 18 0)) 19 2 0 0 192) 18 0 := rfl
  have w40 : (am_cp (am_cp (u2 dt 1 0 (dt 18 0)) 19 2 0 0 192) 20 3 0 0 8) 24 3 = (am_cp (u2 dt 1 0 (dt 18 0)) 19 2 0 0 192) 24 3 := rfl
  have w41 : (am_cp (am_cp (u2 dt 1 0 (dt 18 0)) 19 2 0 0 192) 20 3 0 0 8) 27 3 = (am_cp (u2 dt 1 0 (dt 18 0)) 19 2 0 0 192) 27 3 := rfl
  have w42 : (am_cp (am_cp (u2 dt 1 0 (dt 18 0)) 19 2 0 0 192) 20 3 0 0 8) 29 3 = (am_cp (u2 dt 1 0 (dt 18 0)) 19 2 0 0 192) 29 3 := rfl
  have w43 : (am_cp (am_cp (u2 dt 1 0 (dt 18 0)) 19 2 0 0 192) 20 3 0 0 8) 31 3 = (am_cp (u2 dt 1 0 (dt 18 0)) 19 2 0 0 192) 31 3 := rfl
  have w44 : (am_cp (am_cp (u2 dt 1 0 (dt 18 0)) 19 2 0 0 192) 20 3 0 0 8) 33 3 = (am_cp (u2 dt 1 0 (dt 18 0)) 19 2 0 0 192) 33 3 := rfl
  have T45 : ∀ j : Nat, j < 192 → (am_cp (am_cp (u2 dt 1 0 (dt 18 0)) 19 2 0 0 192) 20 3 0 0 8) 2 j = dt 19 j := fun j hj => (cp_ne (by decide)).trans (T30 j hj)
  have T46 : ∀ j : Nat, j < 8 → (am_cp (am_cp (u2 dt 1 0 (dt 18 0)) 19 2 0 0 192) 20 3 0 0 8) 3 j = dt 20 j := fun j hj => (cp_atv hj).trans (hF17 20 (by decide) j)
  refine go_cpyq PM4 (L' := [some (.inr (.inr (some 1))), some (.inr (.inr (some 18)))]) (st' := []) (w' := (SH, (am_cp (am_cp (u2 dt 1 0 (dt 18 0)) 19 2 0 0 192) 20 3 0 0 8))) rfl rfl (s_cpy (n0 := 8) (n1 := 8) rfl rfl ⟨⟨by omega, by omega, by omega⟩, by omega, by omega, by decide⟩) ?_
  refine go_toq PM4 (k := 9) (pc' := 59) (L' := [some (.inr (.inr (some 1))), some (.inr (.inr (some 18)))]) (st' := [.inl 256, .inl 0, .inr (.inr (some 4)), .inl 0, .inr (.inr (some 21))]) (w' := (SH, (am_cp (am_cp (u2 dt 1 0 (dt 18 0)) 19 2 0 0 192) 20 3 0 0 8))) rfl ?_
  have hI47 : InvC (am_cp (am_cp (am_cp (u2 dt 1 0 (dt 18 0)) 19 2 0 0 192) 20 3 0 0 8) 21 4 0 0 256) := InvC_cp hI31 (fun _ _ => rfl) (fun _ _ => rfl) (fun _ => rfl)
  have hF48 : Fr [1, 2, 3, 4, 5, 6, 7, 8, 9, 10, 11, 12, 13, 14, 15, 16, 17] dt (am_cp (am_cp (am_cp (u2 dt 1 0 (dt 18 0)) 19 2 0 0 192) 20 3 0 0 8) 21 4 0 0 256) := Fr_cp hF32 (by decide)
  have w49 : (am_cp (am_cp (am_cp (u2 dt 1 0 (dt 18 0)) 19 2 0 0 192) 20 3 0 0 8) 21 4 0 0 256) 1 0 = (am_cp (am_cp (u2 dt 1 0 (dt 18 0)) 19 2 0 0 192) 20 3 0 0 8) 1 0 := rfl
  have w50 : (am_cp (am_cp (am_cp (u2 dt 1 0 (dt 18 0)) 19 2 0 0 192) 20 3 0 0 8) 21 4 0 0 256) 7 3 = (am_cp (am_cp (u2 dt 1 0 (dt 18 0)) 19 2 0 0 192) 20 3 0 0 8) 7 3 := rfl
  have w51 : (am_cp (am_cp (am_cp (u2 dt 1 0 (dt 18 0)) 19 2 0 0 192) 20 3 0 0 8) 21 4 0 0 256) 10 3 = (am_cp (am_cp (u2 dt 1 0 (dt 18 0)) 19 2 0 0 192) 20 3 0 0 8) 10 3 := rfl
  have w52 : (am_cp (am_cp (am_cp (u2 dt 1 0 (dt 18 0)) 19 2 0 0 192) 20 3 0 0 8) 21 4 0 0 256) 12 3 = (am_cp (am_cp (u2 dt 1 0 (dt 18 0)) 19 2 0 0 192) 20 3 0 0 8) 12 3 := rfl
  have w53 : (am_cp (am_cp (am_cp (u2 dt 1 0 (dt 18 0)) 19 2 0 0 192) 20 3 0 0 8) 21 4 0 0 256) 14 3 = (am_cp (am_cp (u2 dt 1 0 (dt 18 0)) 19 2 0 0 192) 20 3 0 0 8) 14 3 := rfl
  have w54 : (am_cp (am_cp (am_cp (u2 dt 1 0 (dt 18 0)) 19 2 0 0 192) 20 3 0 0 8) 21 4 0 0 256) 16 3 = (am_cp (am_cp (u2 dt 1 0 (dt 18 0)) 19 2 0 0 192) 20 3 0 0 8) 16 3 := rfl
  have w55 : (am_cp (am_cp (am_cp (u2 dt 1 0 (dt 18 0)) 19 2 0 0 192) 20 3 0 0 8) 21 4 0 0 256) 18 0 = (am_cp (am_cp (u2 dt 1 0 (dt 18 0)) 19 2 0 0 192) 20 3 0 0 8) 18 0 := rfl
  have w56 : (am_cp (am_cp (am_cp (u2 dt 1 0 (dt 18 0)) 19 2 0 0 192) 20 3 0 0 8) 21 4 0 0 256) 24 3 = (am_cp (am_cp (u2 dt 1 0 (dt 18 0)) 19 2 0 0 192) 20 3 0 0 8) 24 3 := rfl
  have w57 : (am_cp (am_cp (am_cp (u2 dt 1 0 (dt 18 0)) 19 2 0 0 192) 20 3 0 0 8) 21 4 0 0 256) 27 3 = (am_cp (am_cp (u2 dt 1 0 (dt 18 0)) 19 2 0 0 192) 20 3 0 0 8) 27 3 := rfl
  have w58 : (am_cp (am_cp (am_cp (u2 dt 1 0 (dt 18 0)) 19 2 0 0 192) 20 3 0 0 8) 21 4 0 0 256) 29 3 = (am_cp (am_cp (u2 dt 1 0 (dt 18 0)) 19 2 0 0 192) 20 3 0 0 8) 29 3 := rfl
  have w59 : (am_cp (am_cp (am_cp (u2 dt 1 0 (dt 18 0)) 19 2 0 0 192) 20 3 0 0 8) 21 4 0 0 256) 31 3 = (am_cp (am_cp (u2 dt 1 0 (dt 18 0)) 19 2 0 0 192) 20 3 0 0 8) 31 3 := rfl
  have w60 : (am_cp (am_cp (am_cp (u2 dt 1 0 (dt 18 0)) 19 2 0 0 192) 20 3 0 0 8) 21 4 0 0 256) 33 3 = (am_cp (am_cp (u2 dt 1 0 (dt 18 0)) 19 2 0 0 192) 20 3 0 0 8) 33 3 := rfl
  have T61 : ∀ j : Nat, j < 192 → (am_cp (am_cp (am_cp (u2 dt 1 0 (dt 18 0)) 19 2 0 0 192) 20 3 0 0 8) 21 4 0 0 256) 2 j = dt 19 j := fun j hj => (cp_ne (by decide)).trans (T45 j hj)
  have T62 : ∀ j : Nat, j < 8 → (am_cp (am_cp (am_cp (u2 dt 1 0 (dt 18 0)) 19 2 0 0 192) 20 3 0 0 8) 21 4 0 0 256) 3 j = dt 20 j := fun j hj => (cp_ne (by decide)).trans (T46 j hj)
  have T63 : ∀ j : Nat, j < 256 → (am_cp (am_cp (am_cp (u2 dt 1 0 (dt 18 0)) 19 2 0 0 192) 20 3 0 0 8) 21 4 0 0 256) 4 j = dt 21 j := fun j hj => (cp_atv hj).trans (hF32 21 (by decide) j)
  refine go_cpyq PM4 (L' := [some (.inr (.inr (some 1))), some (.inr (.inr (some 18)))]) (st' := []) (w' := (SH, (am_cp (am_cp (am_cp (u2 dt 1 0 (dt 18 0)) 19 2 0 0 192) 20 3 0 0 8) 21 4 0 0 256))) rfl rfl (s_cpy (n0 := 256) (n1 := 256) rfl rfl ⟨⟨by omega, by omega, by omega⟩, by omega, by omega, by decide⟩) ?_
  refine go_toq PM4 (k := 9) (pc' := 77) (L' := [some (.inr (.inr (some 1))), some (.inr (.inr (some 18)))]) (st' := [.inl 4, .inl 0, .inr (.inr (some 5)), .inl 0, .inr (.inr (some 22))]) (w' := (SH, (am_cp (am_cp (am_cp (u2 dt 1 0 (dt 18 0)) 19 2 0 0 192) 20 3 0 0 8) 21 4 0 0 256))) rfl ?_
  have hI64 : InvC (am_cp (am_cp (am_cp (am_cp (u2 dt 1 0 (dt 18 0)) 19 2 0 0 192) 20 3 0 0 8) 21 4 0 0 256) 22 5 0 0 4) := InvC_cp hI47 (fun _ _ => rfl) (fun _ _ => rfl) (fun _ => rfl)
  have hF65 : Fr [1, 2, 3, 4, 5, 6, 7, 8, 9, 10, 11, 12, 13, 14, 15, 16, 17] dt (am_cp (am_cp (am_cp (am_cp (u2 dt 1 0 (dt 18 0)) 19 2 0 0 192) 20 3 0 0 8) 21 4 0 0 256) 22 5 0 0 4) := Fr_cp hF48 (by decide)
  have w66 : (am_cp (am_cp (am_cp (am_cp (u2 dt 1 0 (dt 18 0)) 19 2 0 0 192) 20 3 0 0 8) 21 4 0 0 256) 22 5 0 0 4) 1 0 = (am_cp (am_cp (am_cp (u2 dt 1 0 (dt 18 0)) 19 2 0 0 192) 20 3 0 0 8) 21 4 0 0 256) 1 0 := rfl
  have w67 : (am_cp (am_cp (am_cp (am_cp (u2 dt 1 0 (dt 18 0)) 19 2 0 0 192) 20 3 0 0 8) 21 4 0 0 256) 22 5 0 0 4) 7 3 = (am_cp (am_cp (am_cp (u2 dt 1 0 (dt 18 0)) 19 2 0 0 192) 20 3 0 0 8) 21 4 0 0 256) 7 3 := rfl
  have w68 : (am_cp (am_cp (am_cp (am_cp (u2 dt 1 0 (dt 18 0)) 19 2 0 0 192) 20 3 0 0 8) 21 4 0 0 256) 22 5 0 0 4) 10 3 = (am_cp (am_cp (am_cp (u2 dt 1 0 (dt 18 0)) 19 2 0 0 192) 20 3 0 0 8) 21 4 0 0 256) 10 3 := rfl
  have w69 : (am_cp (am_cp (am_cp (am_cp (u2 dt 1 0 (dt 18 0)) 19 2 0 0 192) 20 3 0 0 8) 21 4 0 0 256) 22 5 0 0 4) 12 3 = (am_cp (am_cp (am_cp (u2 dt 1 0 (dt 18 0)) 19 2 0 0 192) 20 3 0 0 8) 21 4 0 0 256) 12 3 := rfl
  have w70 : (am_cp (am_cp (am_cp (am_cp (u2 dt 1 0 (dt 18 0)) 19 2 0 0 192) 20 3 0 0 8) 21 4 0 0 256) 22 5 0 0 4) 14 3 = (am_cp (am_cp (am_cp (u2 dt 1 0 (dt 18 0)) 19 2 0 0 192) 20 3 0 0 8) 21 4 0 0 256) 14 3 := rfl
  have w71 : (am_cp (am_cp (am_cp (am_cp (u2 dt 1 0 (dt 18 0)) 19 2 0 0 192) 20 3 0 0 8) 21 4 0 0 256) 22 5 0 0 4) 16 3 = (am_cp (am_cp (am_cp (u2 dt 1 0 (dt 18 0)) 19 2 0 0 192) 20 3 0 0 8) 21 4 0 0 256) 16 3 := rfl
  have w72 : (am_cp (am_cp (am_cp (am_cp (u2 dt 1 0 (dt 18 0)) 19 2 0 0 192) 20 3 0 0 8) 21 4 0 0 256) 22 5 0 0 4) 18 0 = (am_cp (am_cp (am_cp (u2 dt 1 0 (dt 18 0)) 19 2 0 0 192) 20 3 0 0 8) 21 4 0 0 256) 18 0 := rfl
  have w73 : (am_cp (am_cp (am_cp (am_cp (u2 dt 1 0 (dt 18 0)) 19 2 0 0 192) 20 3 0 0 8) 21 4 0 0 256) 22 5 0 0 4) 24 3 = (am_cp (am_cp (am_cp (u2 dt 1 0 (dt 18 0)) 19 2 0 0 192) 20 3 0 0 8) 21 4 0 0 256) 24 3 := rfl
  have w74 : (am_cp (am_cp (am_cp (am_cp (u2 dt 1 0 (dt 18 0)) 19 2 0 0 192) 20 3 0 0 8) 21 4 0 0 256) 22 5 0 0 4) 27 3 = (am_cp (am_cp (am_cp (u2 dt 1 0 (dt 18 0)) 19 2 0 0 192) 20 3 0 0 8) 21 4 0 0 256) 27 3 := rfl
  have w75 : (am_cp (am_cp (am_cp (am_cp (u2 dt 1 0 (dt 18 0)) 19 2 0 0 192) 20 3 0 0 8) 21 4 0 0 256) 22 5 0 0 4) 29 3 = (am_cp (am_cp (am_cp (u2 dt 1 0 (dt 18 0)) 19 2 0 0 192) 20 3 0 0 8) 21 4 0 0 256) 29 3 := rfl
  have w76 : (am_cp (am_cp (am_cp (am_cp (u2 dt 1 0 (dt 18 0)) 19 2 0 0 192) 20 3 0 0 8) 21 4 0 0 256) 22 5 0 0 4) 31 3 = (am_cp (am_cp (am_cp (u2 dt 1 0 (dt 18 0)) 19 2 0 0 192) 20 3 0 0 8) 21 4 0 0 256) 31 3 := rfl
  have w77 : (am_cp (am_cp (am_cp (am_cp (u2 dt 1 0 (dt 18 0)) 19 2 0 0 192) 20 3 0 0 8) 21 4 0 0 256) 22 5 0 0 4) 33 3 = (am_cp (am_cp (am_cp (u2 dt 1 0 (dt 18 0)) 19 2 0 0 192) 20 3 0 0 8) 21 4 0 0 256) 33 3 := rfl
  have T78 : ∀ j : Nat, j < 192 → (am_cp (am_cp (am_cp (am_cp (u2 dt 1 0 (dt 18 0)) 19 2 0 0 192) 20 3 0 0 8) 21 4 0 0 256) 22 5 0 0 4) 2 j = dt 19 j := fun j hj => (cp_ne (by decide)).trans (T61 j hj)
  have T79 : ∀ j : Nat, j < 8 → (am_cp (am_cp (am_cp (am_cp (u2 dt 1 0 (dt 18 0)) 19 2 0 0 192) 20 3 0 0 8) 21 4 0 0 256) 22 5 0 0 4) 3 j = dt 20 j := fun j hj => (cp_ne (by decide)).trans (T62 j hj)
  have T80 : ∀ j : Nat, j < 256 → (am_cp (am_cp (am_cp (am_cp (u2 dt 1 0 (dt 18 0)) 19 2 0 0 192) 20 3 0 0 8) 21 4 0 0 256) 22 5 0 0 4) 4 j = dt 21 j := fun j hj => (cp_ne (by decide)).trans (T63 j hj)
  have T81 : ∀ j : Nat, j < 4 → (am_cp (am_cp (am_cp (am_cp (u2 dt 1 0 (dt 18 0)) 19 2 0 0 192) 20 3 0 0 8) 21 4 0 0 256) 22 5 0 0 4) 5 j = dt 22 j := fun j hj => (cp_atv hj).trans (hF48 22 (by decide) j)
  refine go_cpyq PM4 (L' := [some (.inr (.inr (some 1))), some (.inr (.inr (some 18)))]) (st' := []) (w' := (SH, (am_cp (am_cp (am_cp (am_cp (u2 dt 1 0 (dt 18 0)) 19 2 0 0 192) 20 3 0 0 8) 21 4 0 0 256) 22 5 0 0 4))) rfl rfl (s_cpy (n0 := 4) (n1 := 4) rfl rfl ⟨⟨by omega, by omega, by omega⟩, by omega, by omega, by decide⟩) ?_
  refine go_toq PM4 (k := 9) (pc' := 95) (L' := [some (.inr (.inr (some 1))), some (.inr (.inr (some 18)))]) (st' := [.inl 2000, .inl 0, .inr (.inr (some 6)), .inl 0, .inr (.inr (some 23))]) (w' := (SH, (am_cp (am_cp (am_cp (am_cp (u2 dt 1 0 (dt 18 0)) 19 2 0 0 192) 20 3 0 0 8) 21 4 0 0 256) 22 5 0 0 4))) rfl ?_
  have hI82 : InvC (am_cp (am_cp (am_cp (am_cp (am_cp (u2 dt 1 0 (dt 18 0)) 19 2 0 0 192) 20 3 0 0 8) 21 4 0 0 256) 22 5 0 0 4) 23 6 0 0 2000) := InvC_cp hI64 (fun _ _ => rfl) (fun _ _ => rfl) (fun _ => rfl)
  have hF83 : Fr [1, 2, 3, 4, 5, 6, 7, 8, 9, 10, 11, 12, 13, 14, 15, 16, 17] dt (am_cp (am_cp (am_cp (am_cp (am_cp (u2 dt 1 0 (dt 18 0)) 19 2 0 0 192) 20 3 0 0 8) 21 4 0 0 256) 22 5 0 0 4) 23 6 0 0 2000) := Fr_cp hF65 (by decide)
  have w84 : (am_cp (am_cp (am_cp (am_cp (am_cp (u2 dt 1 0 (dt 18 0)) 19 2 0 0 192) 20 3 0 0 8) 21 4 0 0 256) 22 5 0 0 4) 23 6 0 0 2000) 1 0 = (am_cp (am_cp (am_cp (am_cp (u2 dt 1 0 (dt 18 0)) 19 2 0 0 192) 20 3 0 0 8) 21 4 0 0 256) 22 5 0 0 4) 1 0 := rfl
  have w85 : (am_cp (am_cp (am_cp (am_cp (am_cp (u2 dt 1 0 (dt 18 0)) 19 2 0 0 192) 20 3 0 0 8) 21 4 0 0 256) 22 5 0 0 4) 23 6 0 0 2000) 7 3 = (am_cp (am_cp (am_cp (am_cp (u2 dt 1 0 (dt 18 0)) 19 2 0 0 192) 20 3 0 0 8) 21 4 0 0 256) 22 5 0 0 4) 7 3 := rfl
  have w86 : (am_cp (am_cp (am_cp (am_cp (am_cp (u2 dt 1 0 (dt 18 0)) 19 2 0 0 192) 20 3 0 0 8) 21 4 0 0 256) 22 5 0 0 4) 23 6 0 0 2000) 10 3 = (am_cp (am_cp (am_cp (am_cp (u2 dt 1 0 (dt 18 0)) 19 2 0 0 192) 20 3 0 0 8) 21 4 0 0 256) 22 5 0 0 4) 10 3 := rfl
  have w87 : (am_cp (am_cp (am_cp (am_cp (am_cp (u2 dt 1 0 (dt 18 0)) 19 2 0 0 192) 20 3 0 0 8) 21 4 0 0 256) 22 5 0 0 4) 23 6 0 0 2000) 12 3 = (am_cp (am_cp (am_cp (am_cp (u2 dt 1 0 (dt 18 0)) 19 2 0 0 192) 20 3 0 0 8) 21 4 0 0 256) 22 5 0 0 4) 12 3 := rfl
  have w88 : (am_cp (am_cp (am_cp (am_cp (am_cp (u2 dt 1 0 (dt 18 0)) 19 2 0 0 192) 20 3 0 0 8) 21 4 0 0 256) 22 5 0 0 4) 23 6 0 0 2000) 14 3 = (am_cp (am_cp (am_cp (am_cp (u2 dt 1 0 (dt 18 0)) 19 2 0 0 192) 20 3 0 0 8) 21 4 0 0 256) 22 5 0 0 4) 14 3 := rfl
  have w89 : (am_cp (am_cp (am_cp (am_cp (am_cp (u2 dt 1 0 (dt 18 0)) 19 2 0 0 192) 20 3 0 0 8) 21 4 0 0 256) 22 5 0 0 4) 23 6 0 0 2000) 16 3 = (am_cp (am_cp (am_cp (am_cp (u2 dt 1 0 (dt 18 0)) 19 2 0 0 192) 20 3 0 0 8) 21 4 0 0 256) 22 5 0 0 4) 16 3 := rfl
  have w90 : (am_cp (am_cp (am_cp (am_cp (am_cp (u2 dt 1 0 (dt 18 0)) 19 2 0 0 192) 20 3 0 0 8) 21 4 0 0 256) 22 5 0 0 4) 23 6 0 0 2000) 18 0 = (am_cp (am_cp (am_cp (am_cp (u2 dt 1 0 (dt 18 0)) 19 2 0 0 192) 20 3 0 0 8) 21 4 0 0 256) 22 5 0 0 4) 18 0 := rfl
  have w91 : (am_cp (am_cp (am_cp (am_cp (am_cp (u2 dt 1 0 (dt 18 0)) 19 2 0 0 192) 20 3 0 0 8) 21 4 0 0 256) 22 5 0 0 4) 23 6 0 0 2000) 24 3 = (am_cp (am_cp (am_cp (am_cp (u2 dt 1 0 (dt 18 0)) 19 2 0 0 192) 20 3 0 0 8) 21 4 0 0 256) 22 5 0 0 4) 24 3 := rfl
  have w92 : (am_cp (am_cp (am_cp (am_cp (am_cp (u2 dt 1 0 (dt 18 0)) 19 2 0 0 192) 20 3 0 0 8) 21 4 0 0 256) 22 5 0 0 4) 23 6 0 0 2000) 27 3 = (am_cp (am_cp (am_cp (am_cp (u2 dt 1 0 (dt 18 0)) 19 2 0 0 192) 20 3 0 0 8) 21 4 0 0 256) 22 5 0 0 4) 27 3 := rfl
  have w93 : (am_cp (am_cp (am_cp (am_cp (am_cp (u2 dt 1 0 (dt 18 0)) 19 2 0 0 192) 20 3 0 0 8) 21 4 0 0 256) 22 5 0 0 4) 23 6 0 0 2000) 29 3 = (am_cp (am_cp (am_cp (am_cp (u2 dt 1 0 (dt 18 0)) 19 2 0 0 192) 20 3 0 0 8) 21 4 0 0 256) 22 5 0 0 4) 29 3 := rfl
  have w94 : (am_cp (am_cp (am_cp (am_cp (am_cp (u2 dt 1 0 (dt 18 0)) 19 2 0 0 192) 20 3 0 0 8) 21 4 0 0 256) 22 5 0 0 4) 23 6 0 0 2000) 31 3 = (am_cp (am_cp (am_cp (am_cp (u2 dt 1 0 (dt 18 0)) 19 2 0 0 192) 20 3 0 0 8) 21 4 0 0 256) 22 5 0 0 4) 31 3 := rfl
  have w95 : (am_cp (am_cp (am_cp (am_cp (am_cp (u2 dt 1 0 (dt 18 0)) 19 2 0 0 192) 20 3 0 0 8) 21 4 0 0 256) 22 5 0 0 4) 23 6 0 0 2000) 33 3 = (am_cp (am_cp (am_cp (am_cp (u2 dt 1 0 (dt 18 0)) 19 2 0 0 192) 20 3 0 0 8) 21 4 0 0 256) 22 5 0 0 4) 33 3 := rfl
  have T96 : ∀ j : Nat, j < 192 → (am_cp (am_cp (am_cp (am_cp (am_cp (u2 dt 1 0 (dt 18 0)) 19 2 0 0 192) 20 3 0 0 8) 21 4 0 0 256) 22 5 0 0 4) 23 6 0 0 2000) 2 j = dt 19 j := fun j hj => (cp_ne (by decide)).trans (T78 j hj)
  have T97 : ∀ j : Nat, j < 8 → (am_cp (am_cp (am_cp (am_cp (am_cp (u2 dt 1 0 (dt 18 0)) 19 2 0 0 192) 20 3 0 0 8) 21 4 0 0 256) 22 5 0 0 4) 23 6 0 0 2000) 3 j = dt 20 j := fun j hj => (cp_ne (by decide)).trans (T79 j hj)
  have T98 : ∀ j : Nat, j < 256 → (am_cp (am_cp (am_cp (am_cp (am_cp (u2 dt 1 0 (dt 18 0)) 19 2 0 0 192) 20 3 0 0 8) 21 4 0 0 256) 22 5 0 0 4) 23 6 0 0 2000) 4 j = dt 21 j := fun j hj => (cp_ne (by decide)).trans (T80 j hj)
  have T99 : ∀ j : Nat, j < 4 → (am_cp (am_cp (am_cp (am_cp (am_cp (u2 dt 1 0 (dt 18 0)) 19 2 0 0 192) 20 3 0 0 8) 21 4 0 0 256) 22 5 0 0 4) 23 6 0 0 2000) 5 j = dt 22 j := fun j hj => (cp_ne (by decide)).trans (T81 j hj)
  have T100 : ∀ j : Nat, j < 2000 → (am_cp (am_cp (am_cp (am_cp (am_cp (u2 dt 1 0 (dt 18 0)) 19 2 0 0 192) 20 3 0 0 8) 21 4 0 0 256) 22 5 0 0 4) 23 6 0 0 2000) 6 j = dt 23 j := fun j hj => (cp_atv hj).trans (hF65 23 (by decide) j)
  refine go_cpyq PM4 (L' := [some (.inr (.inr (some 1))), some (.inr (.inr (some 18)))]) (st' := []) (w' := (SH, (am_cp (am_cp (am_cp (am_cp (am_cp (u2 dt 1 0 (dt 18 0)) 19 2 0 0 192) 20 3 0 0 8) 21 4 0 0 256) 22 5 0 0 4) 23 6 0 0 2000))) rfl rfl (s_cpy (n0 := 2000) (n1 := 2000) rfl rfl ⟨⟨by omega, by omega, by omega⟩, by omega, by omega, by decide⟩) ?_
  refine go_toq PM4 (k := 9) (pc' := 113) (L' := [some (.inr (.inr (some 1))), some (.inr (.inr (some 18)))]) (st' := [.inl 132, .inl 0, .inr (.inr (some 9)), .inl 0, .inr (.inr (some 26))]) (w' := (SH, (am_cp (am_cp (am_cp (am_cp (am_cp (u2 dt 1 0 (dt 18 0)) 19 2 0 0 192) 20 3 0 0 8) 21 4 0 0 256) 22 5 0 0 4) 23 6 0 0 2000))) rfl ?_
  have hI101 : InvC (am_cp (am_cp (am_cp (am_cp (am_cp (am_cp (u2 dt 1 0 (dt 18 0)) 19 2 0 0 192) 20 3 0 0 8) 21 4 0 0 256) 22 5 0 0 4) 23 6 0 0 2000) 26 9 0 0 132) := InvC_cp hI82 (fun _ _ => rfl) (fun _ _ => rfl) (fun _ => rfl)
  have hF102 : Fr [1, 2, 3, 4, 5, 6, 7, 8, 9, 10, 11, 12, 13, 14, 15, 16, 17] dt (am_cp (am_cp (am_cp (am_cp (am_cp (am_cp (u2 dt 1 0 (dt 18 0)) 19 2 0 0 192) 20 3 0 0 8) 21 4 0 0 256) 22 5 0 0 4) 23 6 0 0 2000) 26 9 0 0 132) := Fr_cp hF83 (by decide)
  have w103 : (am_cp (am_cp (am_cp (am_cp (am_cp (am_cp (u2 dt 1 0 (dt 18 0)) 19 2 0 0 192) 20 3 0 0 8) 21 4 0 0 256) 22 5 0 0 4) 23 6 0 0 2000) 26 9 0 0 132) 1 0 = (am_cp (am_cp (am_cp (am_cp (am_cp (u2 dt 1 0 (dt 18 0)) 19 2 0 0 192) 20 3 0 0 8) 21 4 0 0 256) 22 5 0 0 4) 23 6 0 0 2000) 1 0 := rfl
  have w104 : (am_cp (am_cp (am_cp (am_cp (am_cp (am_cp (u2 dt 1 0 (dt 18 0)) 19 2 0 0 192) 20 3 0 0 8) 21 4 0 0 256) 22 5 0 0 4) 23 6 0 0 2000) 26 9 0 0 132) 7 3 = (am_cp (am_cp (am_cp (am_cp (am_cp (u2 dt 1 0 (dt 18 0)) 19 2 0 0 192) 20 3 0 0 8) 21 4 0 0 256) 22 5 0 0 4) 23 6 0 0 2000) 7 3 := rfl
  have w105 : (am_cp (am_cp (am_cp (am_cp (am_cp (am_cp (u2 dt 1 0 (dt 18 0)) 19 2 0 0 192) 20 3 0 0 8) 21 4 0 0 256) 22 5 0 0 4) 23 6 0 0 2000) 26 9 0 0 132) 10 3 = (am_cp (am_cp (am_cp (am_cp (am_cp (u2 dt 1 0 (dt 18 0)) 19 2 0 0 192) 20 3 0 0 8) 21 4 0 0 256) 22 5 0 0 4) 23 6 0 0 2000) 10 3 := rfl
  have w106 : (am_cp (am_cp (am_cp (am_cp (am_cp (am_cp (u2 dt 1 0 (dt 18 0)) 19 2 0 0 192) 20 3 0 0 8) 21 4 0 0 256) 22 5 0 0 4) 23 6 0 0 2000) 26 9 0 0 132) 12 3 = (am_cp (am_cp (am_cp (am_cp (am_cp (u2 dt 1 0 (dt 18 0)) 19 2 0 0 192) 20 3 0 0 8) 21 4 0 0 256) 22 5 0 0 4) 23 6 0 0 2000) 12 3 := rfl
  have w107 : (am_cp (am_cp (am_cp (am_cp (am_cp (am_cp (u2 dt 1 0 (dt 18 0)) 19 2 0 0 192) 20 3 0 0 8) 21 4 0 0 256) 22 5 0 0 4) 23 6 0 0 2000) 26 9 0 0 132) 14 3 = (am_cp (am_cp (am_cp (am_cp (am_cp (u2 dt 1 0 (dt 18 0)) 19 2 0 0 192) 20 3 0 0 8) 21 4 0 0 256) 22 5 0 0 4) 23 6 0 0 2000) 14 3 := rfl
  have w108 : (am_cp (am_cp (am_cp (am_cp (am_cp (am_cp (u2 dt 1 0 (dt 18 0)) 19 2 0 0 192) 20 3 0 0 8) 21 4 0 0 256) 22 5 0 0 4) 23 6 0 0 2000) 26 9 0 0 132) 16 3 = (am_cp (am_cp (am_cp (am_cp (am_cp (u2 dt 1 0 (dt 18 0)) 19 2 0 0 192) 20 3 0 0 8) 21 4 0 0 256) 22 5 0 0 4) 23 6 0 0 2000) 16 3 := rfl
  have w109 : (am_cp (am_cp (am_cp (am_cp (am_cp (am_cp (u2 dt 1 0 (dt 18 0)) 19 2 0 0 192) 20 3 0 0 8) 21 4 0 0 256) 22 5 0 0 4) 23 6 0 0 2000) 26 9 0 0 132) 18 0 = (am_cp (am_cp (am_cp (am_cp (am_cp (u2 dt 1 0 (dt 18 0)) 19 2 0 0 192) 20 3 0 0 8) 21 4 0 0 256) 22 5 0 0 4) 23 6 0 0 2000) 18 0 := rfl
  have w110 : (am_cp (am_cp (am_cp (am_cp (am_cp (am_cp (u2 dt 1 0 (dt 18 0)) 19 2 0 0 192) 20 3 0 0 8) 21 4 0 0 256) 22 5 0 0 4) 23 6 0 0 2000) 26 9 0 0 132) 24 3 = (am_cp (am_cp (am_cp (am_cp (am_cp (u2 dt 1 0 (dt 18 0)) 19 2 0 0 192) 20 3 0 0 8) 21 4 0 0 256) 22 5 0 0 4) 23 6 0 0 2000) 24 3 := rfl
  have w111 : (am_cp (am_cp (am_cp (am_cp (am_cp (am_cp (u2 dt 1 0 (dt 18 0)) 19 2 0 0 192) 20 3 0 0 8) 21 4 0 0 256) 22 5 0 0 4) 23 6 0 0 2000) 26 9 0 0 132) 27 3 = (am_cp (am_cp (am_cp (am_cp (am_cp (u2 dt 1 0 (dt 18 0)) 19 2 0 0 192) 20 3 0 0 8) 21 4 0 0 256) 22 5 0 0 4) 23 6 0 0 2000) 27 3 := rfl
  have w112 : (am_cp (am_cp (am_cp (am_cp (am_cp (am_cp (u2 dt 1 0 (dt 18 0)) 19 2 0 0 192) 20 3 0 0 8) 21 4 0 0 256) 22 5 0 0 4) 23 6 0 0 2000) 26 9 0 0 132) 29 3 = (am_cp (am_cp (am_cp (am_cp (am_cp (u2 dt 1 0 (dt 18 0)) 19 2 0 0 192) 20 3 0 0 8) 21 4 0 0 256) 22 5 0 0 4) 23 6 0 0 2000) 29 3 := rfl
  have w113 : (am_cp (am_cp (am_cp (am_cp (am_cp (am_cp (u2 dt 1 0 (dt 18 0)) 19 2 0 0 192) 20 3 0 0 8) 21 4 0 0 256) 22 5 0 0 4) 23 6 0 0 2000) 26 9 0 0 132) 31 3 = (am_cp (am_cp (am_cp (am_cp (am_cp (u2 dt 1 0 (dt 18 0)) 19 2 0 0 192) 20 3 0 0 8) 21 4 0 0 256) 22 5 0 0 4) 23 6 0 0 2000) 31 3 := rfl
  have w114 : (am_cp (am_cp (am_cp (am_cp (am_cp (am_cp (u2 dt 1 0 (dt 18 0)) 19 2 0 0 192) 20 3 0 0 8) 21 4 0 0 256) 22 5 0 0 4) 23 6 0 0 2000) 26 9 0 0 132) 33 3 = (am_cp (am_cp (am_cp (am_cp (am_cp (u2 dt 1 0 (dt 18 0)) 19 2 0 0 192) 20 3 0 0 8) 21 4 0 0 256) 22 5 0 0 4) 23 6 0 0 2000) 33 3 := rfl
  have T115 : ∀ j : Nat, j < 192 → (am_cp (am_cp (am_cp (am_cp (am_cp (am_cp (u2 dt 1 0 (dt 18 0)) 19 2 0 0 192) 20 3 0 0 8) 21 4 0 0 256) 22 5 0 0 4) 23 6 0 0 2000) 26 9 0 0 132) 2 j = dt 19 j := fun j hj => (cp_ne (by decide)).trans (T96 j hj)
  have T116 : ∀ j : Nat, j < 8 → (am_cp (am_cp (am_cp (am_cp (am_cp (am_cp (u2 dt 1 0 (dt 18 0)) 19 2 0 0 192) 20 3 0 0 8) 21 4 0 0 256) 22 5 0 0 4) 23 6 0 0 2000) 26 9 0 0 132) 3 j = dt 20 j := fun j hj => (cp_ne (by decide)).trans (T97 j hj)
  have T117 : ∀ j : Nat, j < 256 → (am_cp (am_cp (am_cp (am_cp (am_cp (am_cp (u2 dt 1 0 (dt 18 0)) 19 2 0 0 192) 20 3 0 0 8) 21 4 0 0 256) 22 5 0 0 4) 23 6 0 0 2000) 26 9 0 0 132) 4 j = dt 21 j := fun j hj => (cp_ne (by decide)).trans (T98 j hj)
  have T118 : ∀ j : Nat, j < 4 → (am_cp (am_cp (am_cp (am_cp (am_cp (am_cp (u2 dt 1 0 (dt 18 0)) 19 2 0 0 192) 20 3 0 0 8) 21 4 0 0 256) 22 5 0 0 4) 23 6 0 0 2000) 26 9 0 0 132) 5 j = dt 22 j := fun j hj => (cp_ne (by decide)).trans (T99 j hj)
  have T119 : ∀ j : Nat, j < 2000 → (am_cp (am_cp (am_cp (am_cp (am_cp (am_cp (u2 dt 1 0 (dt 18 0)) 19 2 0 0 192) 20 3 0 0 8) 21 4 0 0 256) 22 5 0 0 4) 23 6 0 0 2000) 26 9 0 0 132) 6 j = dt 23 j := fun j hj => (cp_ne (by decide)).trans (T100 j hj)
  have T120 : ∀ j : Nat, j < 132 → (am_cp (am_cp (am_cp (am_cp (am_cp (am_cp (u2 dt 1 0 (dt 18 0)) 19 2 0 0 192) 20 3 0 0 8) 21 4 0 0 256) 22 5 0 0 4) 23 6 0 0 2000) 26 9 0 0 132) 9 j = dt 26 j := fun j hj => (cp_atv hj).trans (hF83 26 (by decide) j)
  refine go_cpyq PM4 (L' := [some (.inr (.inr (some 1))), some (.inr (.inr (some 18)))]) (st' := []) (w' := (SH, (am_cp (am_cp (am_cp (am_cp (am_cp (am_cp (u2 dt 1 0 (dt 18 0)) 19 2 0 0 192) 20 3 0 0 8) 21 4 0 0 256) 22 5 0 0 4) 23 6 0 0 2000) 26 9 0 0 132))) rfl rfl (s_cpy (n0 := 132) (n1 := 132) rfl rfl ⟨⟨by omega, by omega, by omega⟩, by omega, by omega, by decide⟩) ?_
  refine go_toq PM4 (k := 4) (pc' := 124) (L' := [some (.inr (.inr (some 1))), some (.inr (.inr (some 18)))]) (st' := [.inr (.inr (some 24)), .inr (.inr (some 7))]) (w' := (SH, (am_cp (am_cp (am_cp (am_cp (am_cp (am_cp (u2 dt 1 0 (dt 18 0)) 19 2 0 0 192) 20 3 0 0 8) 21 4 0 0 256) 22 5 0 0 4) 23 6 0 0 2000) 26 9 0 0 132))) rfl ?_
  refine go_callq PM4 PM42 (Q' := _) rfl rfl rfl rfl (sp_X2_copyFrom_7f L xs sio (d + 0) (am_cp (am_cp (am_cp (am_cp (am_cp (am_cp (u2 dt 1 0 (dt 18 0)) 19 2 0 0 192) 20 3 0 0 8) 21 4 0 0 256) 22 5 0 0 4) 23 6 0 0 2000) 26 9 0 0 132) hI101   ) ?_
  rintro _ _ ⟨dt122, rfl, hI123, hF124, h121⟩
  refine ⟨rfl, ?_⟩
  have hF125 : Fr [1, 2, 3, 4, 5, 6, 7, 8, 9, 10, 11, 12, 13, 14, 15, 16, 17] dt dt122 := Fr_tr hF102 hF124 (by decide)
  have w126 : dt122 1 0 = (am_cp (am_cp (am_cp (am_cp (am_cp (am_cp (u2 dt 1 0 (dt 18 0)) 19 2 0 0 192) 20 3 0 0 8) 21 4 0 0 256) 22 5 0 0 4) 23 6 0 0 2000) 26 9 0 0 132) 1 0 := hF124 1 (by decide) 0
  have w127 : dt122 10 3 = (am_cp (am_cp (am_cp (am_cp (am_cp (am_cp (u2 dt 1 0 (dt 18 0)) 19 2 0 0 192) 20 3 0 0 8) 21 4 0 0 256) 22 5 0 0 4) 23 6 0 0 2000) 26 9 0 0 132) 10 3 := hF124 10 (by decide) 3
  have w128 : dt122 12 3 = (am_cp (am_cp (am_cp (am_cp (am_cp (am_cp (u2 dt 1 0 (dt 18 0)) 19 2 0 0 192) 20 3 0 0 8) 21 4 0 0 256) 22 5 0 0 4) 23 6 0 0 2000) 26 9 0 0 132) 12 3 := hF124 12 (by decide) 3
  have w129 : dt122 14 3 = (am_cp (am_cp (am_cp (am_cp (am_cp (am_cp (u2 dt 1 0 (dt 18 0)) 19 2 0 0 192) 20 3 0 0 8) 21 4 0 0 256) 22 5 0 0 4) 23 6 0 0 2000) 26 9 0 0 132) 14 3 := hF124 14 (by decide) 3
  have w130 : dt122 16 3 = (am_cp (am_cp (am_cp (am_cp (am_cp (am_cp (u2 dt 1 0 (dt 18 0)) 19 2 0 0 192) 20 3 0 0 8) 21 4 0 0 256) 22 5 0 0 4) 23 6 0 0 2000) 26 9 0 0 132) 16 3 := hF124 16 (by decide) 3
  have w131 : dt122 18 0 = (am_cp (am_cp (am_cp (am_cp (am_cp (am_cp (u2 dt 1 0 (dt 18 0)) 19 2 0 0 192) 20 3 0 0 8) 21 4 0 0 256) 22 5 0 0 4) 23 6 0 0 2000) 26 9 0 0 132) 18 0 := hF124 18 (by decide) 0
  have w132 : dt122 24 3 = (am_cp (am_cp (am_cp (am_cp (am_cp (am_cp (u2 dt 1 0 (dt 18 0)) 19 2 0 0 192) 20 3 0 0 8) 21 4 0 0 256) 22 5 0 0 4) 23 6 0 0 2000) 26 9 0 0 132) 24 3 := hF124 24 (by decide) 3
  have w133 : dt122 27 3 = (am_cp (am_cp (am_cp (am_cp (am_cp (am_cp (u2 dt 1 0 (dt 18 0)) 19 2 0 0 192) 20 3 0 0 8) 21 4 0 0 256) 22 5 0 0 4) 23 6 0 0 2000) 26 9 0 0 132) 27 3 := hF124 27 (by decide) 3
  have w134 : dt122 29 3 = (am_cp (am_cp (am_cp (am_cp (am_cp (am_cp (u2 dt 1 0 (dt 18 0)) 19 2 0 0 192) 20 3 0 0 8) 21 4 0 0 256) 22 5 0 0 4) 23 6 0 0 2000) 26 9 0 0 132) 29 3 := hF124 29 (by decide) 3
  have w135 : dt122 31 3 = (am_cp (am_cp (am_cp (am_cp (am_cp (am_cp (u2 dt 1 0 (dt 18 0)) 19 2 0 0 192) 20 3 0 0 8) 21 4 0 0 256) 22 5 0 0 4) 23 6 0 0 2000) 26 9 0 0 132) 31 3 := hF124 31 (by decide) 3
  have w136 : dt122 33 3 = (am_cp (am_cp (am_cp (am_cp (am_cp (am_cp (u2 dt 1 0 (dt 18 0)) 19 2 0 0 192) 20 3 0 0 8) 21 4 0 0 256) 22 5 0 0 4) 23 6 0 0 2000) 26 9 0 0 132) 33 3 := hF124 33 (by decide) 3
  rcases h121 with ⟨rfl, h121⟩
  obtain ⟨h121_0, h121_1⟩ := h121
  have T137 : ∀ j : Nat, j < 192 → dt122 2 j = dt 19 j := fun j hj => (hF124 2 (by decide) j).trans (T115 j hj)
  have T138 : ∀ j : Nat, j < 8 → dt122 3 j = dt 20 j := fun j hj => (hF124 3 (by decide) j).trans (T116 j hj)
  have T139 : ∀ j : Nat, j < 256 → dt122 4 j = dt 21 j := fun j hj => (hF124 4 (by decide) j).trans (T117 j hj)
  have T140 : ∀ j : Nat, j < 4 → dt122 5 j = dt 22 j := fun j hj => (hF124 5 (by decide) j).trans (T118 j hj)
  have T141 : ∀ j : Nat, j < 2000 → dt122 6 j = dt 23 j := fun j hj => (hF124 6 (by decide) j).trans (T119 j hj)
  have T142 : ∀ j : Nat, j < 60 → dt122 8 j = dt 25 j := fun j hj => (h121_1 j hj).trans (hF102 25 (by decide) j)
  have T143 : ∀ j : Nat, j < 132 → dt122 9 j = dt 26 j := fun j hj => (hF124 9 (by decide) j).trans (T120 j hj)
  refine go_toq PM4 (k := 4) (pc' := 135) (L' := [some (.inr (.inr (some 1))), some (.inr (.inr (some 18)))]) (st' := [.inr (.inr (some 27)), .inr (.inr (some 10))]) (w' := (SH, dt122)) rfl ?_
  refine go_callq PM4 PM42 (Q' := _) rfl rfl rfl rfl (sp_X2_copyFrom_10f L xs sio (d + 0) dt122 hI123   ) ?_
  rintro _ _ ⟨dt145, rfl, hI146, hF147, h144⟩
  refine ⟨rfl, ?_⟩
  have hF148 : Fr [1, 2, 3, 4, 5, 6, 7, 8, 9, 10, 11, 12, 13, 14, 15, 16, 17] dt dt145 := Fr_tr hF125 hF147 (by decide)
  have w149 : dt145 1 0 = dt122 1 0 := hF147 1 (by decide) 0
  have w150 : dt145 7 3 = dt122 7 3 := hF147 7 (by decide) 3
  have w151 : dt145 12 3 = dt122 12 3 := hF147 12 (by decide) 3
  have w152 : dt145 14 3 = dt122 14 3 := hF147 14 (by decide) 3
  have w153 : dt145 16 3 = dt122 16 3 := hF147 16 (by decide) 3
  have w154 : dt145 18 0 = dt122 18 0 := hF147 18 (by decide) 0
  have w155 : dt145 24 3 = dt122 24 3 := hF147 24 (by decide) 3
  have w156 : dt145 27 3 = dt122 27 3 := hF147 27 (by decide) 3
  have w157 : dt145 29 3 = dt122 29 3 := hF147 29 (by decide) 3
  have w158 : dt145 31 3 = dt122 31 3 := hF147 31 (by decide) 3
  have w159 : dt145 33 3 = dt122 33 3 := hF147 33 (by decide) 3
  rcases h144 with ⟨rfl, h144⟩
  obtain ⟨h144_0, h144_1⟩ := h144
  have T160 : ∀ j : Nat, j < 192 → dt145 2 j = dt 19 j := fun j hj => (hF147 2 (by decide) j).trans (T137 j hj)
  have T161 : ∀ j : Nat, j < 8 → dt145 3 j = dt 20 j := fun j hj => (hF147 3 (by decide) j).trans (T138 j hj)
  have T162 : ∀ j : Nat, j < 256 → dt145 4 j = dt 21 j := fun j hj => (hF147 4 (by decide) j).trans (T139 j hj)
  have T163 : ∀ j : Nat, j < 4 → dt145 5 j = dt 22 j := fun j hj => (hF147 5 (by decide) j).trans (T140 j hj)
  have T164 : ∀ j : Nat, j < 2000 → dt145 6 j = dt 23 j := fun j hj => (hF147 6 (by decide) j).trans (T141 j hj)
  have T165 : ∀ j : Nat, j < 60 → dt145 8 j = dt 25 j := fun j hj => (hF147 8 (by decide) j).trans (T142 j hj)
  have T166 : ∀ j : Nat, j < 132 → dt145 9 j = dt 26 j := fun j hj => (hF147 9 (by decide) j).trans (T143 j hj)
  have T167 : ∀ j : Nat, j < 160 → dt145 11 j = dt 28 j := fun j hj => (h144_1 j hj).trans (hF125 28 (by decide) j)
  refine go_toq PM4 (k := 4) (pc' := 146) (L' := [some (.inr (.inr (some 1))), some (.inr (.inr (some 18)))]) (st' := [.inr (.inr (some 29)), .inr (.inr (some 12))]) (w' := (SH, dt145)) rfl ?_
  refine go_callq PM4 PM42 (Q' := _) rfl rfl rfl rfl (sp_X2_copyFrom_12f L xs sio (d + 0) dt145 hI146   ) ?_
  rintro _ _ ⟨dt169, rfl, hI170, hF171, h168⟩
  refine ⟨rfl, ?_⟩
  have hF172 : Fr [1, 2, 3, 4, 5, 6, 7, 8, 9, 10, 11, 12, 13, 14, 15, 16, 17] dt dt169 := Fr_tr hF148 hF171 (by decide)
  have w173 : dt169 1 0 = dt145 1 0 := hF171 1 (by decide) 0
  have w174 : dt169 7 3 = dt145 7 3 := hF171 7 (by decide) 3
  have w175 : dt169 10 3 = dt145 10 3 := hF171 10 (by decide) 3
  have w176 : dt169 14 3 = dt145 14 3 := hF171 14 (by decide) 3
  have w177 : dt169 16 3 = dt145 16 3 := hF171 16 (by decide) 3
  have w178 : dt169 18 0 = dt145 18 0 := hF171 18 (by decide) 0
  have w179 : dt169 24 3 = dt145 24 3 := hF171 24 (by decide) 3
  have w180 : dt169 27 3 = dt145 27 3 := hF171 27 (by decide) 3
  have w181 : dt169 29 3 = dt145 29 3 := hF171 29 (by decide) 3
  have w182 : dt169 31 3 = dt145 31 3 := hF171 31 (by decide) 3
  have w183 : dt169 33 3 = dt145 33 3 := hF171 33 (by decide) 3
  rcases h168 with ⟨rfl, h168⟩
  obtain ⟨h168_0, h168_1⟩ := h168
  have T184 : ∀ j : Nat, j < 192 → dt169 2 j = dt 19 j := fun j hj => (hF171 2 (by decide) j).trans (T160 j hj)
  have T185 : ∀ j : Nat, j < 8 → dt169 3 j = dt 20 j := fun j hj => (hF171 3 (by decide) j).trans (T161 j hj)
  have T186 : ∀ j : Nat, j < 256 → dt169 4 j = dt 21 j := fun j hj => (hF171 4 (by decide) j).trans (T162 j hj)
  have T187 : ∀ j : Nat, j < 4 → dt169 5 j = dt 22 j := fun j hj => (hF171 5 (by decide) j).trans (T163 j hj)
  have T188 : ∀ j : Nat, j < 2000 → dt169 6 j = dt 23 j := fun j hj => (hF171 6 (by decide) j).trans (T164 j hj)
  have T189 : ∀ j : Nat, j < 60 → dt169 8 j = dt 25 j := fun j hj => (hF171 8 (by decide) j).trans (T165 j hj)
  have T190 : ∀ j : Nat, j < 132 → dt169 9 j = dt 26 j := fun j hj => (hF171 9 (by decide) j).trans (T166 j hj)
  have T191 : ∀ j : Nat, j < 160 → dt169 11 j = dt 28 j := fun j hj => (hF171 11 (by decide) j).trans (T167 j hj)
  have T192 : ∀ j : Nat, j < 1800 → dt169 13 j = dt 30 j := fun j hj => (h168_1 j hj).trans (hF148 30 (by decide) j)
  refine go_toq PM4 (k := 4) (pc' := 157) (L' := [some (.inr (.inr (some 1))), some (.inr (.inr (some 18)))]) (st' := [.inr (.inr (some 31)), .inr (.inr (some 14))]) (w' := (SH, dt169)) rfl ?_
  refine go_callq PM4 PM42 (Q' := _) rfl rfl rfl rfl (sp_X2_copyFrom_14 L xs sio (d + 0) dt169 hI170   ) ?_
  rintro _ _ ⟨dt194, rfl, hI195, hF196, h193⟩
  refine ⟨rfl, ?_⟩
  have hF197 : Fr [1, 2, 3, 4, 5, 6, 7, 8, 9, 10, 11, 12, 13, 14, 15, 16, 17] dt dt194 := Fr_tr hF172 hF196 (by decide)
  have w198 : dt194 1 0 = dt169 1 0 := hF196 1 (by decide) 0
  have w199 : dt194 7 3 = dt169 7 3 := hF196 7 (by decide) 3
  have w200 : dt194 10 3 = dt169 10 3 := hF196 10 (by decide) 3
  have w201 : dt194 12 3 = dt169 12 3 := hF196 12 (by decide) 3
  have w202 : dt194 16 3 = dt169 16 3 := hF196 16 (by decide) 3
  have w203 : dt194 18 0 = dt169 18 0 := hF196 18 (by decide) 0
  have w204 : dt194 24 3 = dt169 24 3 := hF196 24 (by decide) 3
  have w205 : dt194 27 3 = dt169 27 3 := hF196 27 (by decide) 3
  have w206 : dt194 29 3 = dt169 29 3 := hF196 29 (by decide) 3
  have w207 : dt194 31 3 = dt169 31 3 := hF196 31 (by decide) 3
  have w208 : dt194 33 3 = dt169 33 3 := hF196 33 (by decide) 3
  rcases h193 with ⟨rfl, h193⟩
  have T209 : ∀ j : Nat, j < 192 → dt194 2 j = dt 19 j := fun j hj => (hF196 2 (by decide) j).trans (T184 j hj)
  have T210 : ∀ j : Nat, j < 8 → dt194 3 j = dt 20 j := fun j hj => (hF196 3 (by decide) j).trans (T185 j hj)
  have T211 : ∀ j : Nat, j < 256 → dt194 4 j = dt 21 j := fun j hj => (hF196 4 (by decide) j).trans (T186 j hj)
  have T212 : ∀ j : Nat, j < 4 → dt194 5 j = dt 22 j := fun j hj => (hF196 5 (by decide) j).trans (T187 j hj)
  have T213 : ∀ j : Nat, j < 2000 → dt194 6 j = dt 23 j := fun j hj => (hF196 6 (by decide) j).trans (T188 j hj)
  have T214 : ∀ j : Nat, j < 60 → dt194 8 j = dt 25 j := fun j hj => (hF196 8 (by decide) j).trans (T189 j hj)
  have T215 : ∀ j : Nat, j < 132 → dt194 9 j = dt 26 j := fun j hj => (hF196 9 (by decide) j).trans (T190 j hj)
  have T216 : ∀ j : Nat, j < 160 → dt194 11 j = dt 28 j := fun j hj => (hF196 11 (by decide) j).trans (T191 j hj)
  have T217 : ∀ j : Nat, j < 1800 → dt194 13 j = dt 30 j := fun j hj => (hF196 13 (by decide) j).trans (T192 j hj)
  refine go_toq PM4 (k := 4) (pc' := 168) (L' := [some (.inr (.inr (some 1))), some (.inr (.inr (some 18)))]) (st' := [.inr (.inr (some 33)), .inr (.inr (some 16))]) (w' := (SH, dt194)) rfl ?_
  refine go_callq PM4 PM42 (Q' := _) rfl rfl rfl rfl (sp_X2_copyFrom_16 L xs sio (d + 0) dt194 hI195   ) ?_
  rintro _ _ ⟨dt219, rfl, hI220, hF221, h218⟩
  refine ⟨rfl, ?_⟩
  have hF222 : Fr [1, 2, 3, 4, 5, 6, 7, 8, 9, 10, 11, 12, 13, 14, 15, 16, 17] dt dt219 := Fr_tr hF197 hF221 (by decide)
  have w223 : dt219 1 0 = dt194 1 0 := hF221 1 (by decide) 0
  have w224 : dt219 7 3 = dt194 7 3 := hF221 7 (by decide) 3
  have w225 : dt219 10 3 = dt194 10 3 := hF221 10 (by decide) 3
  have w226 : dt219 12 3 = dt194 12 3 := hF221 12 (by decide) 3
  have w227 : dt219 14 3 = dt194 14 3 := hF221 14 (by decide) 3
  have w228 : dt219 18 0 = dt194 18 0 := hF221 18 (by decide) 0
  have w229 : dt219 24 3 = dt194 24 3 := hF221 24 (by decide) 3
  have w230 : dt219 27 3 = dt194 27 3 := hF221 27 (by decide) 3
  have w231 : dt219 29 3 = dt194 29 3 := hF221 29 (by decide) 3
  have w232 : dt219 31 3 = dt194 31 3 := hF221 31 (by decide) 3
  have w233 : dt219 33 3 = dt194 33 3 := hF221 33 (by decide) 3
  rcases h218 with ⟨rfl, h218⟩
  have T234 : ∀ j : Nat, j < 192 → dt219 2 j = dt 19 j := fun j hj => (hF221 2 (by decide) j).trans (T209 j hj)
  have T235 : ∀ j : Nat, j < 8 → dt219 3 j = dt 20 j := fun j hj => (hF221 3 (by decide) j).trans (T210 j hj)
  have T236 : ∀ j : Nat, j < 256 → dt219 4 j = dt 21 j := fun j hj => (hF221 4 (by decide) j).trans (T211 j hj)
  have T237 : ∀ j : Nat, j < 4 → dt219 5 j = dt 22 j := fun j hj => (hF221 5 (by decide) j).trans (T212 j hj)
  have T238 : ∀ j : Nat, j < 2000 → dt219 6 j = dt 23 j := fun j hj => (hF221 6 (by decide) j).trans (T213 j hj)
  have T239 : ∀ j : Nat, j < 60 → dt219 8 j = dt 25 j := fun j hj => (hF221 8 (by decide) j).trans (T214 j hj)
  have T240 : ∀ j : Nat, j < 132 → dt219 9 j = dt 26 j := fun j hj => (hF221 9 (by decide) j).trans (T215 j hj)
  have T241 : ∀ j : Nat, j < 160 → dt219 11 j = dt 28 j := fun j hj => (hF221 11 (by decide) j).trans (T216 j hj)
  have T242 : ∀ j : Nat, j < 1800 → dt219 13 j = dt 30 j := fun j hj => (hF221 13 (by decide) j).trans (T217 j hj)
  refine go_retq PM4 (k := 0) (r := none) (w1 := (SH, dt219)) rfl ?_
  exact ⟨dt219, rfl, hI220, hF222, ⟨rfl, ⟨by first | exact True.intro | with_reducible assumption | rfl | omega | trivial, by first | exact True.intro | with_reducible assumption | rfl | omega | trivial, by first | exact True.intro | with_reducible assumption | rfl | omega | trivial, by first | exact True.intro | with_reducible assumption | rfl | omega | trivial, by first | exact True.intro | with_reducible assumption | rfl | omega | trivial, by first | exact True.intro | with_reducible assumption | rfl | omega | trivial, by exact T234, by exact T235, by exact T236, by exact T237, by exact T238, by exact T239, by exact T240, by exact T241, by exact T242⟩⟩⟩
theorem sp_X0_copyFrom_18a (L : Nat) (xs : Nat → Int32) (sio : Option Nat) (d : Nat) (dt : Nat → Nat → Int) (hI : InvC dt)    : GO (am_XX L xs sio) (d + 2) 4 0 [some (.inr (.inr (some 18))), some (.inr (.inr (some 1)))] [] (SH, dt) (fun r w2 => ∃ dt2 : Nat → Nat → Int, w2 = (SH, dt2) ∧ InvC dt2 ∧ Fr [18, 19, 20, 21, 22, 23, 24, 25, 26, 27, 28, 29, 30, 31, 32, 33, 34] dt dt2 ∧ ((r = none ∧ (dt2 18 0 = dt 1 0) ∧ (dt2 24 3 = dt 7 3) ∧ (dt2 27 3 = dt 10 3) ∧ (dt2 29 3 = dt 12 3) ∧ (dt2 31 3 = dt 14 3) ∧ (dt2 33 3 = dt 16 3) ∧ (∀ j : Nat, j < 192 → dt2 19 j = dt 2 j) ∧ (∀ j : Nat, j < 8 → dt2 20 j = dt 3 j) ∧ (∀ j : Nat, j < 256 → dt2 21 j = dt 4 j) ∧ (∀ j : Nat, j < 4 → dt2 22 j = dt 5 j) ∧ (∀ j : Nat, j < 2000 → dt2 23 j = dt 6 j) ∧ (∀ j : Nat, j < 60 → dt2 25 j = dt 8 j) ∧ (∀ j : Nat, j < 132 → dt2 26 j = dt 9 j) ∧ (∀ j : Nat, j < 160 → dt2 28 j = dt 11 j) ∧ (∀ j : Nat, j < 1800 → dt2 30 j = dt 13 j)))) := by
  have hF : Fr [18, 19, 20, 21, 22, 23, 24, 25, 26, 27, 28, 29, 30, 31, 32, 33, 34] dt dt := Fr_refl
  have r1 : (-2147483648) ≤ dt 1 0 ∧ dt 1 0 ≤ 2147483647 := InvC_get hI 1 0 rfl rfl
  refine go_toq PM4 (k := 3) (pc' := 5) (L' := [some (.inr (.inr (some 18))), some (.inr (.inr (some 1)))]) (st' := [.inl (dt 1 0), .inr (.inr (some 18))]) (w' := (SH, dt)) rfl ?_
  have hI2 : InvC (u2 dt 18 0 (dt 1 0)) := InvC_u2 hI (lo := -2147483648) (hi := 2147483647) rfl rfl rfl (by first | exact bnd1 r1 (by decide) | omega) (by first | exact bnd2 r1 (by decide) | omega)
  have hF3 : Fr [18, 19, 20, 21, 22, 23, 24, 25, 26, 27, 28, 29, 30, 31, 32, 33, 34] dt (u2 dt 18 0 (dt 1 0)) := Fr_u2 hF (by decide)
  have w4 : (u2 dt 18 0 (dt 1 0)) 18 0 = dt 1 0 := rfl
  have w5 : (u2 dt 18 0 (dt 1 0)) 24 3 = dt 24 3 := rfl
  have w6 : (u2 dt 18 0 (dt 1 0)) 27 3 = dt 27 3 := rfl
  have w7 : (u2 dt 18 0 (dt 1 0)) 29 3 = dt 29 3 := rfl
  have w8 : (u2 dt 18 0 (dt 1 0)) 31 3 = dt 31 3 := rfl
  have w9 : (u2 dt 18 0 (dt 1 0)) 33 3 = dt 33 3 := rfl
  have w10 : (u2 dt 18 0 (dt 1 0)) 1 0 = dt 1 0 := rfl
  have w11 : (u2 dt 18 0 (dt 1 0)) 7 3 = dt 7 3 := rfl
  have w12 : (u2 dt 18 0 (dt 1 0)) 10 3 = dt 10 3 := rfl
  have w13 : (u2 dt 18 0 (dt 1 0)) 12 3 = dt 12 3 := rfl
  have w14 : (u2 dt 18 0 (dt 1 0)) 14 3 = dt 14 3 := rfl
  have w15 : (u2 dt 18 0 (dt 1 0)) 16 3 = dt 16 3 := rfl
  refine go_smpq PM4 (L' := [some (.inr (.inr (some 18))), some (.inr (.inr (some 1)))]) (st' := []) (w' := (SH, (u2 dt 18 0 (dt 1 0)))) rfl rfl (s_pf rfl rfl rfl rfl (by first | exact bnd r1 (by decide) (by decide) | exact ⟨by omega, by omega⟩)) ?_
  refine go_toq PM4 (k := 9) (pc' := 23) (L' := [some (.inr (.inr (some 18))), some (.inr (.inr (some 1)))]) (st' := [.inl 192, .inl 0, .inr (.inr (some 19)), .inl 0, .inr (.inr (some 2))]) (w' := (SH, (u2 dt 18 0 (dt 1 0)))) rfl ?_
  have hI16 : InvC (am_cp (u2 dt 18 0 (dt 1 0)) 2 19 0 0 192) := InvC_cp hI2 (fun _ _ => rfl) (fun _ _ => rfl) (fun _ => rfl)
  have hF17 : Fr [18, 19, 20, 21, 22, 23, 24, 25, 26, 27, 28, 29, 30, 31, 32, 33, 34] dt (am_cp (u2 dt 18 0 (dt 1 0)) 2 19 0 0 192) := Fr_cp hF3 (by decide)
  have w18 : (am_cp (u2 dt 18 0 (dt 1 0)) 2 19 0 0 192) 18 0 = (u2 dt 18 0 (dt 1 0)) 18 0 := rfl
  have w19 : (am_cp (u2 dt 18 0 (dt 1 0)) 2 19 0 0 192) 24 3 = (u2 dt 18 0 (dt 1 0)) 24 3 := rfl
  have w20 : (am_cp (u2 dt 18 0 (dt 1 0)) 2 19 0 0 192) 27 3 = (u2 dt 18 0 (dt 1 0)) 27 3 := rfl
  have w21 : (am_cp (u2 dt 18 0 (dt 1 0)) 2 19 0 0 192) 29 3 = (u2 dt 18 0 (dt 1 0)) 29 3 := rfl
  have w22 : (am_cp (u2 dt 18 0 (dt 1 0)) 2 19 0 0 192) 31 3 = (u2 dt 18 0 (dt 1 0)) 31 3 := rfl
  have w23 : (am_cp (u2 dt 18 0 (dt 1 0)) 2 19 0 0 192) 33 3 = (u2 dt 18 0 (dt 1 0)) 33 3 := rfl
  have w24 : (am_cp (u2 dt 18 0 (dt 1 0)) 2 19 0 0 192) 1 0 = (u2 dt 18 0 (dt 1 0)) 1 0 := rfl
  have w25 : (am_cp (u2 dt 18 0 (dt 1 0)) 2 19 0 0 192) 7 3 = (u2 dt 18 0 (dt 1 0)) 7 3 := rfl
  have w26 : (am_cp (u2 dt 18 0 (dt 1 0)) 2 19 0 0 192) 10 3 = (u2 dt 18 0 (dt 1 0)) 10 3 := rfl
  have w27 : (am_cp (u2 dt 18 0 (dt 1 0)) 2 19 0 0 192) 12 3 = (u2 dt 18 0 (dt 1 0)) 12 3 := rfl
  have w28 : (am_cp (u2 dt 18 0 (dt 1 0)) 2 19 0 0 192) 14 3 = (u2 dt 18 0 (dt 1 0)) 14 3 := rfl
  have w29 : (am_cp (u2 dt 18 0 (dt 1 0)) 2 19 0 0 192) 16 3 = (u2 dt 18 0 (dt 1 0)) 16 3 := rfl
  have T30 : ∀ j : Nat, j < 192 → (am_cp (u2 dt 18 0 (dt 1 0)) 2 19 0 0 192) 19 j = dt 2 j := fun j hj => (cp_atv hj).trans (hF3 2 (by decide) j)
  refine go_cpyq PM4 (L' := [some (.inr (.inr (some 18))), some (.inr (.inr (some 1)))]) (st' := []) (w' := (SH, (am_cp (u2 dt 18 0 (dt 1 0)) 2 19 0 0 192))) rfl rfl (s_cpy (n0 := 192) (n1 := 192) rfl rfl ⟨⟨by omega, by omega, by omega⟩, by omega, by omega, by decide⟩) ?_
  refine go_toq PM4 (k := 9) (pc' := 41) (L' := [some (.inr (.inr (some 18))), some (.inr (.inr (some 1)))]) (st' := [.inl 8, .inl 0, .inr (.inr (some 20)), .inl 0, .inr (.inr (some 3))]) (w' := (SH, (am_cp (u2 dt 18 0 (dt 1 0)) 2 19 0 0 192))) rfl ?_
  have hI31 : InvC (am_cp (am_cp (u2 dt 18 0 (dt 1 0)) 2 19 0 0 192) 3 20 0 0 8) := InvC_cp hI16 (fun _ _ => rfl) (fun _ _ => rfl) (fun _ => rfl)
  have hF32 : Fr [18, 19, 20, 21, 22, 23, 24, 25, 26, 27, 28, 29, 30, 31, 32, 33, 34] dt (am_cp (am_cp (u2 dt 18 0 (dt 1 0)) 2 19 0 0 192) 3 20 0 0 8) := Fr_cp hF17 (by decide)
  have w33 : (am_cp (am_cp (u2 dt 18 0 (dt 1 0)) 2 19 0 0 192) 3 20 0 0 8) 18 0 = (am_cp (u2 dt 18 0 (dt 1 0)) 2 19 0 0 192) 18 0 := rfl
  have w34 : (am_cp (am_cp (u2 dt 18 0 (dt 1 0)) 2 19 0 0 192) 3 20 0 0 8) 24 3 = (am_cp (u2 dt 18 0 (dt 1 0)) 2 19 0 0 192) 24 3 := rfl
  have w35 : (am_cp (am_cp (u2 dt 18 0 (dt 1 0)) 2 19 0 0 192) 3 20 0 0 8) 27 3 = (am_cp (u2 dt 18 0 (dt 1 0)) 2 19 0 0 192) 27 3 := rfl
  have w36 : (am_cp (am_cp (u2 dt 18 0 (dt 1 0)) 2 19 0 0 192) 3 20 0 0 8) 29 3 = (am_cp (u2 dt 18 0 (dt 1 0)) 2 19 0 0 192) 29 3 := rfl
  have w37 : (am_cp (am_cp (u2 dt 18 0 (dt 1 0)) 2 19 0 0 192) 3 20 0 0 8) 31 3 = (am_cp (u2 dt 18 0 (dt 1 0)) 2 19 0 0 192) 31 3 := rfl
  have w38 : (am_cp (am_cp (u2 dt 18 0 (dt 1 0)) 2 19 0 0 192) 3 20 0 0 8) 33 3 = (am_cp (u2 dt 18 0 (dt 1 0)) 2 19 0 0 192) 33 3 := rfl
  have w39 : (am_cp (am_cp (u2 dt 18 0 (dt 1 0)) 2 19 0 0 192) 3 20 0 0 8) 1 0 = (am_cp (u2 dt 18 0 (dt 1 0)) 2 19 0 0 192) 1 0 := rfl
  have w40 : (am_cp (am_cp (u2 dt 18 0 (dt 1 0)) 2 19 0 0 192) 3 20 0 0 8) 7 3 = (am_cp (u2 dt 18 0 (dt 1 0)) 2 19 0 0 192) 7 3 := rfl
  have w41 : (am_cp (am_cp (u2 dt 18 0 (dt 1 0)) 2 19 0 0 192) 3 20 0 0 8) 10 3 = (am_cp (u2 dt 18 0 (dt 1 0)) 2 19 0 0 192) 10 3 := rfl
  have w42 : (am_cp (am_cp (u2 dt 18 0 (dt 1 0)) 2 19 0 0 192) 3 20 0 0 8) 12 3 = (am_cp (u2 dt 18 0 (dt 1 0)) 2 19 0 0 192) 12 3 := rfl
  have w43 : (am_cp (am_cp (u2 dt 18 0 (dt 1 0)) 2 19 0 0 192) 3 20 0 0 8) 14 3 = (am_cp (u2 dt 18 0 (dt 1 0)) 2 19 0 0 192) 14 3 := rfl
  have w44 : (am_cp (am_cp (u2 dt 18 0 (dt 1 0)) 2 19 0 0 192) 3 20 0 0 8) 16 3 = (am_cp (u2 dt 18 0 (dt 1 0)) 2 19 0 0 192) 16 3 := rfl
  have T45 : ∀ j : Nat, j < 192 → (am_cp (am_cp (u2 dt 18 0 (dt 1 0)) 2 19 0 0 192) 3 20 0 0 8) 19 j = dt 2 j := fun j hj => (cp_ne (by decide)).trans (T30 j hj)
  have T46 : ∀ j : Nat, j < 8 → (am_cp (am_cp (u2 dt 18 0 (dt 1 0)) 2 19 0 0 192) 3 20 0 0 8) 20 j = dt 3 j := fun j hj => (cp_atv hj).trans (hF17 3 (by decide) j)
  refine go_cpyq PM4 (L' := [some (.inr (.inr (some 18))), some (.inr (.inr (some 1)))]) (st' := []) (w' := (SH, (am_cp (am_cp (u2 dt 18 0 (dt 1 0)) 2 19 0 0 192) 3 20 0 0 8))) rfl rfl (s_cpy (n0 := 8) (n1 := 8) rfl rfl ⟨⟨by omega, by omega, by omega⟩, by omega, by omega, by decide⟩) ?_
  refine go_toq PM4 (k := 9) (pc' := 59) (L' := [some (.inr (.inr (some 18))), some (.inr (.inr (some 1)))]) (st' := [.inl 256, .inl 0, .inr (.inr (some 21)), .inl 0, .inr (.inr (some 4))]) (w' := (SH, (am_cp (am_cp (u2 dt 18 0 (dt 1 0)) 2 19 0 0 192) 3 20 0 0 8))) rfl ?_
  have hI47 : InvC (am_cp (am_cp (am_cp (u2 dt 18 0 (dt 1 0)) 2 19 0 0 192) 3 20 0 0 8) 4 21 0 0 256) := InvC_cp hI31 (fun _ _ => rfl) (fun _ _ => rfl) (fun _ => rfl)
  have hF48 : Fr [18, 19, 20, 21, 22, 23, 24, 25, 26, 27, 28, 29, 30, 31, 32, 33, 34] dt (am_cp (am_cp (am_cp (u2 dt 18 0 (dt 1 0)) 2 19 0 0 192) 3 20 0 0 8) 4 21 0 0 256) := Fr_cp hF32 (by decide)
  have w49 : (am_cp (am_cp (am_cp (u2 dt 18 0 (dt 1 0)) 2 19 0 0 192) 3 20 0 0 8) 4 21 0 0 256) 18 0 = (am_cp (am_cp (u2 dt 18 0 (dt 1 0)) 2 19 0 0 192) 3 20 0 0 8) 18 0 := rfl
  have w50 : (am_cp (am_cp (am_cp (u2 dt 18 0 (dt 1 0)) 2 19 0 0 192) 3 20 0 0 8) 4 21 0 0 256) 24 3 = (am_cp (am_cp (u2 dt 18 0 (dt 1 0)) 2 19 0 0 192) 3 20 0 0 8) 24 3 := rfl
  have w51 : (am_cp (am_cp (am_cp (u2 dt 18 0 (dt 1 0)) 2 19 0 0 192) 3 20 0 0 8) 4 21 0 0 256) 27 3 = (am_cp (am_cp (u2 dt 18 0 (dt 1 0)) 2 19 0 0 192) 3 20 0 0 8) 27 3 := rfl
  have w52 : (am_cp (am_cp (am_cp (u2 dt 18 0 (dt 1 0)) 2 19 0 0 192) 3 20 0 0 8) 4 21 0 0 256) 29 3 = (am_cp (am_cp (u2 dt 18 0 (dt 1 0)) 2 19 0 0 192) 3 20 0 0 8) 29 3 := rfl
  have w53 : (am_cp (am_cp (am_cp (u2 dt 18 0 (dt 1 0)) 2 19 0 0 192) 3 20 0 0 8) 4 21 0 0 256) 31 3 = (am_cp (am_cp (u2 dt 18 0 (dt 1 0)) 2 19 0 0 192) 3 20 0 0 8) 31 3 := rfl
  have w54 : (am_cp (am_cp (am_cp (u2 dt 18 0 (dt 1 0)) 2 19 0 0 192) 3 20 0 0 8) 4 21 0 0 256) 33 3 = (am_cp (am_cp (u2 dt 18 0 (dt 1 0)) 2 19 0 0 192) 3 20 0 0 8) 33 3 := rfl
  have w55 : (am_cp (am_cp (am_cp (u2 dt 18 0 (dt 1 0)) 2 19 0 0 192) 3 20 0 0 8) 4 21 0 0 256) 1 0 = (am_cp (am_cp (u2 dt 18 0 (dt 1 0)) 2 19 0 0 192) 3 20 0 0 8) 1 0 := rfl
  have w56 : (am_cp (am_cp (am_cp (u2 dt 18 0 (dt 1 0)) 2 19 0 0 192) 3 20 0 0 8) 4 21 0 0 256) 7 3 = (am_cp (am_cp (u2 dt 18 0 (dt 1 0)) 2 19 0 0 192) 3 20 0 0 8) 7 3 := rfl
  have w57 : (am_cp (am_cp (am_cp (u2 dt 18 0 (dt 1 0)) 2 19 0 0 192) 3 20 0 0 8) 4 21 0 0 256) 10 3 = (am_cp (am_cp (u2 dt 18 0 (dt 1 0)) 2 19 0 0 192) 3 20 0 0 8) 10 3 := rfl
  have w58 : (am_cp (am_cp (am_cp (u2 dt 18 0 (dt 1 0)) 2 19 0 0 192) 3 20 0 0 8) 4 21 0 0 256) 12 3 = (am_cp (am_cp (u2 dt 18 0 (dt 1 0)) 2 19 0 0 192) 3 20 0 0 8) 12 3 := rfl
  have w59 : (am_cp (am_cp (am_cp (u2 dt 18 0 (dt 1 0)) 2 19 0 0 192) 3 20 0 0 8) 4 21 0 0 256) 14 3 = (am_cp (am_cp (u2 dt 18 0 (dt 1 0)) 2 19 0 0 192) 3 20 0 0 8) 14 3 := rfl
  have w60 : (am_cp (am_cp (am_cp (u2 dt 18 0 (dt 1 0)) 2 19 0 0 192) 3 20 0 0 8) 4 21 0 0 256) 16 3 = (am_cp (am_cp (u2 dt 18 0 (dt 1 0)) 2 19 0 0 192) 3 20 0 0 8) 16 3 := rfl
  have T61 : ∀ j : Nat, j < 192 → (am_cp (am_cp (am_cp (u2 dt 18 0 (dt 1 0)) 2 19 0 0 192) 3 20 0 0 8) 4 21 0 0 256) 19 j = dt 2 j := fun j hj => (cp_ne (by decide)).trans (T45 j hj)
  have T62 : ∀ j : Nat, j < 8 → (am_cp (am_cp (am_cp (u2 dt 18 0 (dt 1 0)) 2 19 0 0 192) 3 20 0 0 8) 4 21 0 0 256) 20 j = dt 3 j := fun j hj => (cp_ne (by decide)).trans (T46 j hj)
  have T63 : ∀ j : Nat, j < 256 → (am_cp (am_cp (am_cp (u2 dt 18 0 (dt 1 0)) 2 19 0 0 192) 3 20 0 0 8) 4 21 0 0 256) 21 j = dt 4 j := fun j hj => (cp_atv hj).trans (hF32 4 (by decide) j)
  refine go_cpyq PM4 (L' := [some (.inr (.inr (some 18))), some (.inr (.inr (some 1)))]) (st' := []) (w' := (SH, (am_cp (am_cp (am_cp (u2 dt 18 0 (dt 1 0)) 2 19 0 0 192) 3 20 0 0 8) 4 21 0 0 256))) rfl rfl (s_cpy (n0 := 256) (n1 := 256) rfl rfl ⟨⟨by omega, by omega, by omega⟩, by omega, by omega, by decide⟩) ?_
  refine go_toq PM4 (k := 9) (pc' := 77) (L' := [some (.inr (.inr (some 18))), some (.inr (.inr (some 1)))]) (st' := [.inl 4, .inl 0, .inr (.inr (some 22)), .inl 0, .inr (.inr (some 5))]) (w' := (SH, (am_cp (am_cp (am_cp (u2 dt 18 0 (dt 1 0)) 2 19 0 0 192) 3 20 0 0 8) 4 21 0 0 256))) rfl ?_
  have hI64 : InvC (am_cp (am_cp (am_cp (am_cp (u2 dt 18 0 (dt 1 0)) 2 19 0 0 192) 3 20 0 0 8) 4 21 0 0 256) 5 22 0 0 4) := InvC_cp hI47 (fun _ _ => rfl) (fun _ _ => rfl) (fun _ => rfl)
  have hF65 : Fr [18, 19, 20, 21, 22, 23, 24, 25, 26, 27, 28, 29, 30, 31, 32, 33, 34] dt (am_cp (am_cp (am_cp (am_cp (u2 dt 18 0 (dt 1 0)) 2 19 0 0 192) 3 20 0 0 8) 4 21 0 0 256) 5 22 0 0 4) := Fr_cp hF48 (by decide)
  have w66 : (am_cp (am_cp (am_cp (am_cp (u2 dt 18 0 (dt 1 0)) 2 19 0 0 192) 3 20 0 0 8) 4 21 0 0 256) 5 22 0 0 4) 18 0 = (am_cp (am_cp (am_cp (u2 dt 18 0 (dt 1 0)) 2 19 0 0 192) 3 20 0 0 8) 4 21 0 0 256) 18 0 := rfl
  have w67 : (am_cp (am_cp (am_cp (am_cp (u2 dt 18 0 (dt 1 0)) 2 19 0 0 192) 3 20 0 0 8) 4 21 0 0 256) 5 22 0 0 4) 24 3 = (am_cp (am_cp (am_cp (u2 dt 18 0 (dt 1 0)) 2 19 0 0 192) 3 20 0 0 8) 4 21 0 0 256) 24 3 := rfl
  have w68 : (am_cp (am_cp (am_cp (am_cp (u2 dt 18 0 (dt 1 0)) 2 19 0 0 192) 3 20 0 0 8) 4 21 0 0 256) 5 22 0 0 4) 27 3 = (am_cp (am_cp (am_cp (u2 dt 18 0 (dt 1 0)) 2 19 0 0 192) 3 20 0 0 8) 4 21 0 0 256) 27 3 := rfl
  have w69 : (am_cp (am_cp (am_cp (am_cp (u2 dt 18 0 (dt 1 0)) 2 19 0 0 192) 3 20 0 0 8) 4 21 0 0 256) 5 22 0 0 4) 29 3 = (am_cp (am_cp (am_cp (u2 dt 18 0 (dt 1 0)) 2 19 0 0 192) 3 20 0 0 8) 4 21 0 0 256) 29 3 := rfl
  have w70 : (am_cp (am_cp (am_cp (am_cp (u2 dt 18 0 (dt 1 0)) 2 19 0 0 192) 3 20 0 0 8) 4 21 0 0 256) 5 22 0 0 4) 31 3 = (am_cp (am_cp (am_cp (u2 dt 18 0 (dt 1 0)) 2 19 0 0 192) 3 20 0 0 8) 4 21 0 0 256) 31 3 := rfl
  have w71 : (am_cp (am_cp (am_cp (am_cp (u2 dt 18 0 (dt 1 0)) 2 19 0 0 192) 3 20 0 0 8) 4 21 0 0 256) 5 22 0 0 4) 33 3 = (am_cp (am_cp (am_cp (u2 dt 18 0 (dt 1 0)) 2 19 0 0 192) 3 20 0 0 8) 4 21 0 0 256) 33 3 := rfl
  have w72 : (am_cp (am_cp (am_cp (am_cp (u2 dt 18 0 (dt 1 0)) 2 19 0 0 192) 3 20 0 0 8) 4 21 0 0 256) 5 22 0 0 4) 1 0 = (am_cp (am_cp (am_cp (u2 dt 18 0 (dt 1 0)) 2 19 0 0 192) 3 20 0 0 8) 4 21 0 0 256) 1 0 := rfl
  have w73 : (am_cp (am_cp (am_cp (am_cp (u2 dt 18 0 (dt 1 0)) 2 19 0 0 192) 3 20 0 0 8) 4 21 0 0 256) 5 22 0 0 4) 7 3 = (am_cp (am_cp (am_cp (u2 dt 18 0 (dt 1 0)) 2 19 0 0 192) 3 20 0 0 8) 4 21 0 0 256) 7 3 := rfl
  have w74 : (am_cp (am_cp (am_cp (am_cp (u2 dt 18 0 (dt 1 0)) 2 19 0 0 192) 3 20 0 0 8) 4 21 0 0 256) 5 22 0 0 4) 10 3 = (am_cp (am_cp (am_cp (u2 dt 18 0 (dt 1 0)) 2 19 0 0 192) 3 20 0 0 8) 4 21 0 0 256) 10 3 := rfl
  have w75 : (am_cp (am_cp (am_cp (am_cp (u2 dt 18 0 (dt 1 0)) 2 19 0 0 192) 3 20 0 0 8) 4 21 0 0 256) 5 22 0 0 4) 12 3 = (am_cp (am_cp (am_cp (u2 dt 18 0 (dt 1 0)) 2 19 0 0 192) 3 20 0 0 8) 4 21 0 0 256) 12 3 := rfl
  have w76 : (am_cp (am_cp (am_cp (am_cp (u2 dt 18 0 (dt 1 0)) 2 19 0 0 192) 3 20 0 0 8) 4 21 0 0 256) 5 22 0 0 4) 14 3 = (am_cp (am_cp (am_cp (u2 dt 18 0 (dt 1 0)) 2 19 0 0 192) 3 20 0 0 8) 4 21 0 0 256) 14 3 := rfl
  have w77 : (am_cp (am_cp (am_cp (am_cp (u2 dt 18 0 (dt 1 0)) 2 19 0 0 192) 3 20 0 0 8) 4 21 0 0 256) 5 22 0 0 4) 16 3 = (am_cp (am_cp (am_cp (u2 dt 18 0 (dt 1 0)) 2 19 0 0 192) 3 20 0 0 8) 4 21 0 0 256) 16 3 := rfl
  have T78 : ∀ j : Nat, j < 192 → (am_cp (am_cp (am_cp (am_cp (u2 dt 18 0 (dt 1 0)) 2 19 0 0 192) 3 20 0 0 8) 4 21 0 0 256) 5 22 0 0 4) 19 j = dt 2 j := fun j hj => (cp_ne (by decide)).trans (T61 j hj)
  have T79 : ∀ j : Nat, j < 8 → (am_cp (am_cp (am_cp (am_cp (u2 dt 18 0 (dt 1 0)) 2 19 0 0 192) 3 20 0 0 8) 4 21 0 0 256) 5 22 0 0 4) 20 j = dt 3 j := fun j hj => (cp_ne (by decide)).trans (T62 j hj)
  have T80 : ∀ j : Nat, j < 256 → (am_cp (am_cp (am_cp (am_cp (u2 dt 18 0 (dt 1 0)) 2 19 0 0 192) 3 20 0 0 8) 4 21 0 0 256) 5 22 0 0 4) 21 j = dt 4 j := fun j hj => (cp_ne (by decide)).trans (T63 j hj)
  have T81 : ∀ j : Nat, j < 4 → (am_cp (am_cp (am_cp (am_cp (u2 dt 18 0 (dt 1 0)) 2 19 0 0 192) 3 20 0 0 8) 4 21 0 0 256) 5 22 0 0 4) 22 j = dt 5 j := fun j hj => (cp_atv hj).trans (hF48 5 (by decide) j)
  refine go_cpyq PM4 (L' := [some (.inr (.inr (some 18))), some (.inr (.inr (some 1)))]) (st' := []) (w' := (SH, (am_cp (am_cp (am_cp (am_cp (u2 dt 18 0 (dt 1 0)) 2 19 0 0 192) 3 20 0 0 8) 4 21 0 0 256) 5 22 0 0 4))) rfl rfl (s_cpy (n0 := 4) (n1 := 4) rfl rfl ⟨⟨by omega, by omega, by omega⟩, by omega, by omega, by decide⟩) ?_
  refine go_toq PM4 (k := 9) (pc' := 95) (L' := [some (.inr (.inr (some 18))), some (.inr (.inr (some 1)))]) (st' := [.inl 2000, .inl 0, .inr (.inr (some 23)), .inl 0, .inr (.inr (some 6))]) (w' := (SH, (am_cp (am_cp (am_cp (am_cp (u2 dt 18 0 (dt 1 0)) 2 19 0 0 192) 3 20 0 0 8) 4 21 0 0 256) 5 22 0 0 4))) rfl ?_
  have hI82 : InvC (am_cp (am_cp (am_cp (am_cp (am_cp (u2 dt 18 0 (dt 1 0)) 2 19 0 0 192) 3 20 0 0 8) 4 21 0 0 256) 5 22 0 0 4) 6 23 0 0 2000) := InvC_cp hI64 (fun _ _ => rfl) (fun _ _ => rfl) (fun _ => rfl)
  have hF83 : Fr [18, 19, 20, 21, 22, 23, 24, 25, 26, 27, 28, 29, 30, 31, 32, 33, 34] dt (am_cp (am_cp (am_cp (am_cp (am_cp (u2 dt 18 0 (dt 1 0)) 2 19 0 0 192) 3 20 0 0 8) 4 21 0 0 256) 5 22 0 0 4) 6 23 0 0 2000) := Fr_cp hF65 (by decide)
  have w84 : (am_cp (am_cp (am_cp (am_cp (am_cp (u2 dt 18 0 (dt 1 0)) 2 19 0 0 192) 3 20 0 0 8) 4 21 0 0 256) 5 22 0 0 4) 6 23 0 0 2000) 18 0 = (am_cp (am_cp (am_cp (am_cp (u2 dt 18 0 (dt 1 0)) 2 19 0 0 192) 3 20 0 0 8) 4 21 0 0 256) 5 22 0 0 4) 18 0 := rfl
  have w85 : (am_cp (am_cp (am_cp (am_cp (am_cp (u2 dt 18 0 (dt 1 0)) 2 19 0 0 192) 3 20 0 0 8) 4 21 0 0 256) 5 22 0 0 4) 6 23 0 0 2000) 24 3 = (am_cp (am_cp (am_cp (am_cp (u2 dt 18 0 (dt 1 0)) 2 19 0 0 192) 3 20 0 0 8) 4 21 0 0 256) 5 22 0 0 4) 24 3 := rfl
  have w86 : (am_cp (am_cp (am_cp (am_cp (am_cp (u2 dt 18 0 (dt 1 0)) 2 19 0 0 192) 3 20 0 0 8) 4 21 0 0 256) 5 22 0 0 4) 6 23 0 0 2000) 27 3 = (am_cp (am_cp (am_cp (am_cp (u2 dt 18 0 (dt 1 0)) 2 19 0 0 192) 3 20 0 0 8) 4 21 0 0 256) 5 22 0 0 4) 27 3 := rfl
  have w87 : (am_cp (am_cp (am_cp (am_cp (am_cp (u2 dt 18 0 (dt 1 0)) 2 19 0 0 192) 3 20 0 0 8) 4 21 0 0 256) 5 22 0 0 4) 6 23 0 0 2000) 29 3 = (am_cp (am_cp (am_cp (am_cp (u2 dt 18 0 (dt 1 0)) 2 19 0 0 192) 3 20 0 0 8) 4 21 0 0 256) 5 22 0 0 4) 29 3 := rfl
  have w88 : (am_cp (am_cp (am_cp (am_cp (am_cp (u2 dt 18 0 (dt 1 0)) 2 19 0 0 192) 3 20 0 0 8) 4 21 0 0 256) 5 22 0 0 4) 6 23 0 0 2000) 31 3 = (am_cp (am_cp (am_cp (am_cp (u2 dt 18 0 (dt 1 0)) 2 19 0 0 192) 3 20 0 0 8) 4 21 0 0 256) 5 22 0 0 4) 31 3 := rfl
  have w89 : (am_cp (am_cp (am_cp (am_cp (am_cp (u2 dt 18 0 (dt 1 0)) 2 19 0 0 192) 3 20 0 0 8) 4 21 0 0 256) 5 22 0 0 4) 6 23 0 0 2000) 33 3 = (am_cp (am_cp (am_cp (am_cp (u2 dt 18 0 (dt 1 0)) 2 19 0 0 192) 3 20 0 0 8) 4 21 0 0 256) 5 22 0 0 4) 33 3 := rfl
  have w90 : (am_cp (am_cp (am_cp (am_cp (am_cp (u2 dt 18 0 (dt 1 0)) 2 19 0 0 192) 3 20 0 0 8) 4 21 0 0 256) 5 22 0 0 4) 6 23 0 0 2000) 1 0 = (am_cp (am_cp (am_cp (am_cp (u2 dt 18 0 (dt 1 0)) 2 19 0 0 192) 3 20 0 0 8) 4 21 0 0 256) 5 22 0 0 4) 1 0 := rfl
  have w91 : (am_cp (am_cp (am_cp (am_cp (am_cp (u2 dt 18 0 (dt 1 0)) 2 19 0 0 192) 3 20 0 0 8) 4 21 0 0 256) 5 22 0 0 4) 6 23 0 0 2000) 7 3 = (am_cp (am_cp (am_cp (am_cp (u2 dt 18 0 (dt 1 0)) 2 19 0 0 192) 3 20 0 0 8) 4 21 0 0 256) 5 22 0 0 4) 7 3 := rfl
  have w92 : (am_cp (am_cp (am_cp (am_cp (am_cp (u2 dt 18 0 (dt 1 0)) 2 19 0 0 192) 3 20 0 0 8) 4 21 0 0 256) 5 22 0 0 4) 6 23 0 0 2000) 10 3 = (am_cp (am_cp (am_cp (am_cp (u2 dt 18 0 (dt 1 0)) 2 19 0 0 192) 3 20 0 0 8) 4 21 0 0 256) 5 22 0 0 4) 10 3 := rfl
  have w93 : (am_cp (am_cp (am_cp (am_cp (am_cp (u2 dt 18 0 (dt 1 0)) 2 19 0 0 192) 3 20 0 0 8) 4 21 0 0 256) 5 22 0 0 4) 6 23 0 0 2000) 12 3 = (am_cp (am_cp (am_cp (am_cp (u2 dt 18 0 (dt 1 0)) 2 19 0 0 192) 3 20 0 0 8) 4 21 0 0 256) 5 22 0 0 4) 12 3 := rfl
  have w94 : (am_cp (am_cp (am_cp (am_cp (am_cp (u2 dt 18 0 (dt 1 0)) 2 19 0 0 192) 3 20 0 0 8) 4 21 0 0 256) 5 22 0 0 4) 6 23 0 0 2000) 14 3 = (am_cp (am_cp (am_cp (am_cp (u2 dt 18 0 (dt 1 0)) 2 19 0 0 192) 3 20 0 0 8) 4 21 0 0 256) 5 22 0 0 4) 14 3 := rfl
  have w95 : (am_cp (am_cp (am_cp (am_cp (am_cp (u2 dt 18 0 (dt 1 0)) 2 19 0 0 192) 3 20 0 0 8) 4 21 0 0 256) 5 22 0 0 4) 6 23 0 0 2000) 16 3 = (am_cp (am_cp (am_cp (am_cp (u2 dt 18 0 (dt 1 0)) 2 19 0 0 192) 3 20 0 0 8) 4 21 0 0 256) 5 22 0 0 4) 16 3 := rfl
  have T96 : ∀ j : Nat, j < 192 → (am_cp (am_cp (am_cp (am_cp (am_cp (u2 dt 18 0 (dt 1 0)) 2 19 0 0 192) 3 20 0 0 8) 4 21 0 0 256) 5 22 0 0 4) 6 23 0 0 2000) 19 j = dt 2 j := fun j hj => (cp_ne (by decide)).trans (T78 j hj)
  have T97 : ∀ j : Nat, j < 8 → (am_cp (am_cp (am_cp (am_cp (am_cp (u2 dt 18 0 (dt 1 0)) 2 19 0 0 192) 3 20 0 0 8) 4 21 0 0 256) 5 22 0 0 4) 6 23 0 0 2000) 20 j = dt 3 j := fun j hj => (cp_ne (by decide)).trans (T79 j hj)
  have T98 : ∀ j : Nat, j < 256 → (am_cp (am_cp (am_cp (am_cp (am_cp (u2 dt 18 0 (dt 1 0)) 2 19 0 0 192) 3 20 0 0 8) 4 21 0 0 256) 5 22 0 0 4) 6 23 0 0 2000) 21 j = dt 4 j := fun j hj => (cp_ne (by decide)).trans (T80 j hj)
  have T99 : ∀ j : Nat, j < 4 → (am_cp (am_cp (am_cp (am_cp (am_cp (u2 dt 18 0 (dt 1 0)) 2 19 0 0 192) 3 20 0 0 8) 4 21 0 0 256) 5 22 0 0 4) 6 23 0 0 2000) 22 j = dt 5 j := fun j hj => (cp_ne (by decide)).trans (T81 j hj)
  have T100 : ∀ j : Nat, j < 2000 → (am_cp (am_cp (am_cp (am_cp (am_cp (u2 dt 18 0 (dt 1 0)) 2 19 0 0 192) 3 20 0 0 8) 4 21 0 0 256) 5 22 0 0 4) 6 23 0 0 2000) 23 j = dt 6 j := fun j hj => (cp_atv hj).trans (hF65 6 (by decide) j)
  refine go_cpyq PM4 (L' := [some (.inr (.inr (some 18))), some (.inr (.inr (some 1)))]) (st' := []) (w' := (SH, (am_cp (am_cp (am_cp (am_cp (am_cp (u2 dt 18 0 (dt 1 0)) 2 19 0 0 192) 3 20 0 0 8) 4 21 0 0 256) 5 22 0 0 4) 6 23 0 0 2000))) rfl rfl (s_cpy (n0 := 2000) (n1 := 2000) rfl rfl ⟨⟨by omega, by omega, by omega⟩, by omega, by omega, by decide⟩) ?_
  refine go_toq PM4 (k := 9) (pc' := 113) (L' := [some (.inr (.inr (some 18))), some (.inr (.inr (some 1)))]) (st' := [.inl 132, .inl 0, .inr (.inr (some 26)), .inl 0, .inr (.inr (some 9))]) (w' := (SH, (am_cp (am_cp (am_cp (am_cp (am_cp (u2 dt 18 0 (dt 1 0)) 2 19 0 0 192) 3 20 0 0 8) 4 21 0 0 256) 5 22 0 0 4) 6 23 0 0 2000))) rfl ?_
  have hI101 : InvC (am_cp (am_cp (am_cp (am_cp (am_cp (am_cp (u2 dt 18 0 (dt 1 0)) 2 19 0 0 192) 3 20 0 0 8) 4 21 0 0 256) 5 22 0 0 4) 6 23 0 0 2000) 9 26 0 0 132) := InvC_cp hI82 (fun _ _ => rfl) (fun _ _ => rfl) (fun _ => rfl)
  have hF102 : Fr [18, 19, 20, 21, 22, 23, 24, 25, 26, 27, 28, 29, 30, 31, 32, 33, 34] dt (am_cp (am_cp (am_cp (am_cp (am_cp (am_cp (u2 dt 18 0 (dt 1 0)) 2 19 0 0 192) 3 20 0 0 8) 4 21 0 0 256) 5 22 0 0 4) 6 23 0 0 2000) 9 26 0 0 132) := Fr_cp hF83 (by decide)
  have w103 : (am_cp (am_cp (am_cp (am_cp (am_cp (am_cp (u2 dt 18 0 (dt 1 0)) 2 19 0 0 192) 3 20 0 0 8) 4 21 0 0 256) 5 22 0 0 4) 6 23 0 0 2000) 9 26 0 0 132) 18 0 = (am_cp (am_cp (am_cp (am_cp (am_cp (u2 dt 18 0 (dt 1 0)) 2 19 0 0 192) 3 20 0 0 8) 4 21 0 0 256) 5 22 0 0 4) 6 23 0 0 2000) 18 0 := rfl
  have w104 : (am_cp (am_cp (am_cp (am_cp (am_cp (am_cp (u2 dt 18 0 (dt 1 0)) 2 19 0 0 192) 3 20 0 0 8) 4 21 0 0 256) 5 22 0 0 4) 6 23 0 0 2000) 9 26 0 0 132) 24 3 = (am_cp (am_cp (am_cp (am_cp (am_cp (u2 dt 18 0 (dt 1 0)) 2 19 0 0 192) 3 20 0 0 8) 4 21 0 0 256) 5 22 0 0 4) 6 23 0 0 2000) 24 3 := rfl
  have w105 : (am_cp (am_cp (am_cp (am_cp (am_cp (am_cp (u2 dt 18 0 (dt 1 0)) 2 19 0 0 192) 3 20 0 0 8) 4 21 0 0 256) 5 22 0 0 4) 6 23 0 0 2000) 9 26 0 0 132) 27 3 = (am_cp (am_cp (am_cp (am_cp (am_cp (u2 dt 18 0 (dt 1 0)) 2 19 0 0 192) 3 20 0 0 8) 4 21 0 0 256) 5 22 0 0 4) 6 23 0 0 2000) 27 3 := rfl
  have w106 : (am_cp (am_cp (am_cp (am_cp (am_cp (am_cp (u2 dt 18 0 (dt 1 0)) 2 19 0 0 192) 3 20 0 0 8) 4 21 0 0 256) 5 22 0 0 4) 6 23 0 0 2000) 9 26 0 0 132) 29 3 = (am_cp (am_cp (am_cp (am_cp (am_cp (u2 dt 18 0 (dt 1 0)) 2 19 0 0 192) 3 20 0 0 8) 4 21 0 0 256) 5 22 0 0 4) 6 23 0 0 2000) 29 3 := rfl
  have w107 : (am_cp (am_cp (am_cp (am_cp (am_cp (am_cp (u2 dt 18 0 (dt 1 0)) 2 19 0 0 192) 3 20 0 0 8) 4 21 0 0 256) 5 22 0 0 4) 6 23 0 0 2000) 9 26 0 0 132) 31 3 = (am_cp (am_cp (am_cp (am_cp (am_cp (u2 dt 18 0 (dt 1 0)) 2 19 0 0 192) 3 20 0 0 8) 4 21 0 0 256) 5 22 0 0 4) 6 23 0 0 2000) 31 3 := rfl
  have w108 : (am_cp (am_cp (am_cp (am_cp (am_cp (am_cp (u2 dt 18 0 (dt 1 0)) 2 19 0 0 192) 3 20 0 0 8) 4 21 0 0 256) 5 22 0 0 4) 6 23 0 0 2000) 9 26 0 0 132) 33 3 = (am_cp (am_cp (am_cp (am_cp (am_cp (u2 dt 18 0 (dt 1 0)) 2 19 0 0 192) 3 20 0 0 8) 4 21 0 0 256) 5 22 0 0 4) 6 23 0 0 2000) 33 3 := rfl
  have w109 : (am_cp (am_cp (am_cp (am_cp (am_cp (am_cp (u2 dt 18 0 (dt 1 0)) 2 19 0 0 192) 3 20 0 0 8) 4 21 0 0 256) 5 22 0 0 4) 6 23 0 0 2000) 9 26 0 0 132) 1 0 = (am_cp (am_cp (am_cp (am_cp (am_cp (u2 dt 18 0 (dt 1 0)) 2 19 0 0 192) 3 20 0 0 8) 4 21 0 0 256) 5 22 0 0 4) 6 23 0 0 2000) 1 0 := rfl
  have w110 : (am_cp (am_cp (am_cp (am_cp (am_cp (am_cp (u2 dt 18 0 (dt 1 0)) 2 19 0 0 192) 3 20 0 0 8) 4 21 0 0 256) 5 22 0 0 4) 6 23 0 0 2000) 9 26 0 0 132) 7 3 = (am_cp (am_cp (am_cp (am_cp (am_cp (u2 dt 18 0 (dt 1 0)) 2 19 0 0 192) 3 20 0 0 8) 4 21 0 0 256) 5 22 0 0 4) 6 23 0 0 2000) 7 3 := rfl
  have w111 : (am_cp (am_cp (am_cp (am_cp (am_cp (am_cp (u2 dt 18 0 (dt 1 0)) 2 19 0 0 192) 3 20 0 0 8) 4 21 0 0 256) 5 22 0 0 4) 6 23 0 0 2000) 9 26 0 0 132) 10 3 = (am_cp (am_cp (am_cp (am_cp (am_cp (u2 dt 18 0 (dt 1 0)) 2 19 0 0 192) 3 20 0 0 8) 4 21 0 0 256) 5 22 0 0 4) 6 23 0 0 2000) 10 3 := rfl
  have w112 : (am_cp (am_cp (am_cp (am_cp (am_cp (am_cp (u2 dt 18 0 (dt 1 0)) 2 19 0 0 192) 3 20 0 0 8) 4 21 0 0 256) 5 22 0 0 4) 6 23 0 0 2000) 9 26 0 0 132) 12 3 = (am_cp (am_cp (am_cp (am_cp (am_cp (u2 dt 18 0 (dt 1 0)) 2 19 0 0 192) 3 20 0 0 8) 4 21 0 0 256) 5 22 0 0 4) 6 23 0 0 2000) 12 3 := rfl
  have w113 : (am_cp (am_cp (am_cp (am_cp (am_cp (am_cp (u2 dt 18 0 (dt 1 0)) 2 19 0 0 192) 3 20 0 0 8) 4 21 0 0 256) 5 22 0 0 4) 6 23 0 0 2000) 9 26 0 0 132) 14 3 = (am_cp (am_cp (am_cp (am_cp (am_cp (u2 dt 18 0 (dt 1 0)) 2 19 0 0 192) 3 20 0 0 8) 4 21 0 0 256) 5 22 0 0 4) 6 23 0 0 2000) 14 3 := rfl
  have w114 : (am_cp (am_cp (am_cp (am_cp (am_cp (am_cp (u2 dt 18 0 (dt 1 0)) 2 19 0 0 192) 3 20 0 0 8) 4 21 0 0 256) 5 22 0 0 4) 6 23 0 0 2000) 9 26 0 0 132) 16 3 = (am_cp (am_cp (am_cp (am_cp (am_cp (u2 dt 18 0 (dt 1 0)) 2 19 0 0 192) 3 20 0 0 8) 4 21 0 0 256) 5 22 0 0 4) 6 23 0 0 2000) 16 3 := rfl
  have T115 : ∀ j : Nat, j < 192 → (am_cp (am_cp (am_cp (am_cp (am_cp (am_cp (u2 dt 18 0 (dt 1 0)) 2 19 0 0 192) 3 20 0 0 8) 4 21 0 0 256) 5 22 0 0 4) 6 23 0 0 2000) 9 26 0 0 132) 19 j = dt 2 j := fun j hj => (cp_ne (by decide)).trans (T96 j hj)
  have T116 : ∀ j : Nat, j < 8 → (am_cp (am_cp (am_cp (am_cp (am_cp (am_cp (u2 dt 18 0 (dt 1 0)) 2 19 0 0 192) 3 20 0 0 8) 4 21 0 0 256) 5 22 0 0 4) 6 23 0 0 2000) 9 26 0 0 132) 20 j = dt 3 j := fun j hj => (cp_ne (by decide)).trans (T97 j hj)
  have T117 : ∀ j : Nat, j < 256 → (am_cp (am_cp (am_cp (am_cp (am_cp (am_cp (u2 dt 18 0 (dt 1 0)) 2 19 0 0 192) 3 20 0 0 8) 4 21 0 0 256) 5 22 0 0 4) 6 23 0 0 2000) 9 26 0 0 132) 21 j = dt 4 j := fun j hj => (cp_ne (by decide)).trans (T98 j hj)
  have T118 : ∀ j : Nat, j < 4 → (am_cp (am_cp (am_cp (am_cp (am_cp (am_cp (u2 dt 18 0 (dt 1 0)) 2 19 0 0 192) 3 20 0 0 8) 4 21 0 0 256) 5 22 0 0 4) 6 23 0 0 2000) 9 26 0 0 132) 22 j = dt 5 j := fun j hj => (cp_ne (by decide)).trans (T99 j hj)
  have T119 : ∀ j : Nat, j < 2000 → (am_cp (am_cp (am_cp (am_cp (am_cp (am_cp (u2 dt 18 0 (dt 1 0)) 2 19 0 0 192) 3 20 0 0 8) 4 21 0 0 256) 5 22 0 0 4) 6 23 0 0 2000) 9 26 0 0 132) 23 j = dt 6 j := fun j hj => (cp_ne (by decide)).trans (T100 j hj)
  have T120 : ∀ j : Nat, j < 132 → (am_cp (am_cp (am_cp (am_cp (am_cp (am_cp (u2 dt 18 0 (dt 1 0)) 2 19 0 0 192) 3 20 0 0 8) 4 21 0 0 256) 5 22 0 0 4) 6 23 0 0 2000) 9 26 0 0 132) 26 j = dt 9 j := fun j hj => (cp_atv hj).trans (hF83 9 (by decide) j)
  refine go_cpyq PM4 (L' := [some (.inr (.inr (some 18))), some (.inr (.inr (some 1)))]) (st' := []) (w' := (SH, (am_cp (am_cp (am_cp (am_cp (am_cp (am_cp (u2 dt 18 0 (dt 1 0)) 2 19 0 0 192) 3 20 0 0 8) 4 21 0 0 256) 5 22 0 0 4) 6 23 0 0 2000) 9 26 0 0 132))) rfl rfl (s_cpy (n0 := 132) (n1 := 132) rfl rfl ⟨⟨by omega, by omega, by omega⟩, by omega, by omega, by decide⟩) ?_
  refine go_toq PM4 (k := 4) (pc' := 124) (L' := [some (.inr (.inr (some 18))), some (.inr (.inr (some 1)))]) (st' := [.inr (.inr (some 7)), .inr (.inr (some 24))]) (w' := (SH, (am_cp (am_cp (am_cp (am_cp (am_cp (am_cp (u2 dt 18 0 (dt 1 0)) 2 19 0 0 192) 3 20 0 0 8) 4 21 0 0 256) 5 22 0 0 4) 6 23 0 0 2000) 9 26 0 0 132))) rfl ?_
  refine go_callq PM4 PM42 (Q' := _) rfl rfl rfl rfl (sp_X2_copyFrom_24f L xs sio (d + 0) (am_cp (am_cp (am_cp (am_cp (am_cp (am_cp (u2 dt 18 0 (dt 1 0)) 2 19 0 0 192) 3 20 0 0 8) 4 21 0 0 256) 5 22 0 0 4) 6 23 0 0 2000) 9 26 0 0 132) hI101   ) ?_
  rintro _ _ ⟨dt122, rfl, hI123, hF124, h121⟩
  refine ⟨rfl, ?_⟩
  have hF125 : Fr [18, 19, 20, 21, 22, 23, 24, 25, 26, 27, 28, 29, 30, 31, 32, 33, 34] dt dt122 := Fr_tr hF102 hF124 (by decide)
  have w126 : dt122 18 0 = (am_cp (am_cp (am_cp (am_cp (am_cp (am_cp (u2 dt 18 0 (dt 1 0)) 2 19 0 0 192) 3 20 0 0 8) 4 21 0 0 256) 5 22 0 0 4) 6 23 0 0 2000) 9 26 0 0 132) 18 0 := hF124 18 (by decide) 0
  have w127 : dt122 27 3 = (am_cp (am_cp (am_cp (am_cp (am_cp (am_cp (u2 dt 18 0 (dt 1 0)) 2 19 0 0 192) 3 20 0 0 8) 4 21 0 0 256) 5 22 0 0 4) 6 23 0 0 2000) 9 26 0 0 132) 27 3 := hF124 27 (by decide) 3
  have w128 : dt122 29 3 = (am_cp (am_cp (am_cp (am_cp (am_cp (am_cp (u2 dt 18 0 (dt 1 0)) 2 19 0 0 192) 3 20 0 0 8) 4 21 0 0 256) 5 22 0 0 4) 6 23 0 0 2000) 9 26 0 0 132) 29 3 := hF124 29 (by decide) 3
  have w129 : dt122 31 3 = (am_cp (am_cp (am_cp (am_cp (am_cp (am_cp (u2 dt 18 0 (dt 1 0)) 2 19 0 0 192) 3 20 0 0 8) 4 21 0 0 256) 5 22 0 0 4) 6 23 0 0 2000) 9 26 0 0 132) 31 3 := hF124 31 (by decide) 3
  have w130 : dt122 33 3 = (am_cp (am_cp (am_cp (am_cp (am_cp (am_cp (u2 dt 18 0 (dt 1 0)) 2 19 0 0 192) 3 20 0 0 8) 4 21 0 0 256) 5 22 0 0 4) 6 23 0 0 2000) 9 26 0 0 132) 33 3 := hF124 33 (by decide) 3
  have w131 : dt122 1 0 = (am_cp (am_cp (am_cp (am_cp (am_cp (am_cp (u2 dt 18 0 (dt 1 0)) 2 19 0 0 192) 3 20 0 0 8) 4 21 0 0 256) 5 22 0 0 4) 6 23 0 0 2000) 9 26 0 0 132) 1 0 := hF124 1 (by decide) 0
  have w132 : dt122 7 3 = (am_cp (am_cp (am_cp (am_cp (am_cp (am_cp (u2 dt 18 0 (dt 1 0)) 2 19 0 0 192) 3 20 0 0 8) 4 21 0 0 256) 5 22 0 0 4) 6 23 0 0 2000) 9 26 0 0 132) 7 3 := hF124 7 (by decide) 3
  have w133 : dt122 10 3 = (am_cp (am_cp (am_cp (am_cp (am_cp (am_cp (u2 dt 18 0 (dt 1 0)) 2 19 0 0 192) 3 20 0 0 8) 4 21 0 0 256) 5 22 0 0 4) 6 23 0 0 2000) 9 26 0 0 132) 10 3 := hF124 10 (by decide) 3
  have w134 : dt122 12 3 = (am_cp (am_cp (am_cp (am_cp (am_cp (am_cp (u2 dt 18 0 (dt 1 0)) 2 19 0 0 192) 3 20 0 0 8) 4 21 0 0 256) 5 22 0 0 4) 6 23 0 0 2000) 9 26 0 0 132) 12 3 := hF124 12 (by decide) 3
  have w135 : dt122 14 3 = (am_cp (am_cp (am_cp (am_cp (am_cp (am_cp (u2 dt 18 0 (dt 1 0)) 2 19 0 0 192) 3 20 0 0 8) 4 21 0 0 256) 5 22 0 0 4) 6 23 0 0 2000) 9 26 0 0 132) 14 3 := hF124 14 (by decide) 3
  have w136 : dt122 16 3 = (am_cp (am_cp (am_cp (am_cp (am_cp (am_cp (u2 dt 18 0 (dt 1 0)) 2 19 0 0 192) 3 20 0 0 8) 4 21 0 0 256) 5 22 0 0 4) 6 23 0 0 2000) 9 26 0 0 132) 16 3 := hF124 16 (by decide) 3
  rcases h121 with ⟨rfl, h121⟩
  obtain ⟨h121_0, h121_1⟩ := h121
  have T137 : ∀ j : Nat, j < 192 → dt122 19 j = dt 2 j := fun j hj => (hF124 19 (by decide) j).trans (T115 j hj)
  have T138 : ∀ j : Nat, j < 8 → dt122 20 j = dt 3 j := fun j hj => (hF124 20 (by decide) j).trans (T116 j hj)
  have T139 : ∀ j : Nat, j < 256 → dt122 21 j = dt 4 j := fun j hj => (hF124 21 (by decide) j).trans (T117 j hj)
  have T140 : ∀ j : Nat, j < 4 → dt122 22 j = dt 5 j := fun j hj => (hF124 22 (by decide) j).trans (T118 j hj)
  have T141 : ∀ j : Nat, j < 2000 → dt122 23 j = dt 6 j := fun j hj => (hF124 23 (by decide) j).trans (T119 j hj)
  have T142 : ∀ j : Nat, j < 60 → dt122 25 j = dt 8 j := fun j hj => (h121_1 j hj).trans (hF102 8 (by decide) j)
  have T143 : ∀ j : Nat, j < 132 → dt122 26 j = dt 9 j := fun j hj => (hF124 26 (by decide) j).trans (T120 j hj)
  refine go_toq PM4 (k := 4) (pc' := 135) (L' := [some (.inr (.inr (some 18))), some (.inr (.inr (some 1)))]) (st' := [.inr (.inr (some 10)), .inr (.inr (some 27))]) (w' := (SH, dt122)) rfl ?_
  refine go_callq PM4 PM42 (Q' := _) rfl rfl rfl rfl (sp_X2_copyFrom_27f L xs sio (d + 0) dt122 hI123   ) ?_
  rintro _ _ ⟨dt145, rfl, hI146, hF147, h144⟩
  refine ⟨rfl, ?_⟩
  have hF148 : Fr [18, 19, 20, 21, 22, 23, 24, 25, 26, 27, 28, 29, 30, 31, 32, 33, 34] dt dt145 := Fr_tr hF125 hF147 (by decide)
  have w149 : dt145 18 0 = dt122 18 0 := hF147 18 (by decide) 0
  have w150 : dt145 24 3 = dt122 24 3 := hF147 24 (by decide) 3
  have w151 : dt145 29 3 = dt122 29 3 := hF147 29 (by decide) 3
  have w152 : dt145 31 3 = dt122 31 3 := hF147 31 (by decide) 3
  have w153 : dt145 33 3 = dt122 33 3 := hF147 33 (by decide) 3
  have w154 : dt145 1 0 = dt122 1 0 := hF147 1 (by decide) 0
  have w155 : dt145 7 3 = dt122 7 3 := hF147 7 (by decide) 3
  have w156 : dt145 10 3 = dt122 10 3 := hF147 10 (by decide) 3
  have w157 : dt145 12 3 = dt122 12 3 := hF147 12 (by decide) 3
  have w158 : dt145 14 3 = dt122 14 3 := hF147 14 (by decide) 3
  have w159 : dt145 16 3 = dt122 16 3 := hF147 16 (by decide) 3
  rcases h144 with ⟨rfl, h144⟩
  obtain ⟨h144_0, h144_1⟩ := h144
  have T160 : ∀ j : Nat, j < 192 → dt145 19 j = dt 2 j := fun j hj => (hF147 19 (by decide) j).trans (T137 j hj)
  have T161 : ∀ j : Nat, j < 8 → dt145 20 j = dt 3 j := fun j hj => (hF147 20 (by decide) j).trans (T138 j hj)
  have T162 : ∀ j : Nat, j < 256 → dt145 21 j = dt 4 j := fun j hj => (hF147 21 (by decide) j).trans (T139 j hj)
  have T163 : ∀ j : Nat, j < 4 → dt145 22 j = dt 5 j := fun j hj => (hF147 22 (by decide) j).trans (T140 j hj)
  have T164 : ∀ j : Nat, j < 2000 → dt145 23 j = dt 6 j := fun j hj => (hF147 23 (by decide) j).trans (T141 j hj)
  have T165 : ∀ j : Nat, j < 60 → dt145 25 j = dt 8 j := fun j hj => (hF147 25 (by decide) j).trans (T142 j hj)
  have T166 : ∀ j : Nat, j < 132 → dt145 26 j = dt 9 j := fun j hj => (hF147 26 (by decide) j).trans (T143 j hj)
  have T167 : ∀ j : Nat, j < 160 → dt145 28 j = dt 11 j := fun j hj => (h144_1 j hj).trans (hF125 11 (by decide) j)
  refine go_toq PM4 (k := 4) (pc' := 146) (L' := [some (.inr (.inr (some 18))), some (.inr (.inr (some 1)))]) (st' := [.inr (.inr (some 12)), .inr (.inr (some 29))]) (w' := (SH, dt145)) rfl ?_
  refine go_callq PM4 PM42 (Q' := _) rfl rfl rfl rfl (sp_X2_copyFrom_29f L xs sio (d + 0) dt145 hI146   ) ?_
  rintro _ _ ⟨dt169, rfl, hI170, hF171, h168⟩
  refine ⟨rfl, ?_⟩
  have hF172 : Fr [18, 19, 20, 21, 22, 23, 24, 25, 26, 27, 28, 29, 30, 31, 32, 33, 34] dt dt169 := Fr_tr hF148 hF171 (by decide)
  have w173 : dt169 18 0 = dt145 18 0 := hF171 18 (by decide) 0
  have w174 : dt169 24 3 = dt145 24 3 := hF171 24 (by decide) 3
  have w175 : dt169 27 3 = dt145 27 3 := hF171 27 (by decide) 3
  have w176 : dt169 31 3 = dt145 31 3 := hF171 31 (by decide) 3
  have w177 : dt169 33 3 = dt145 33 3 := hF171 33 (by decide) 3
  have w178 : dt169 1 0 = dt145 1 0 := hF171 1 (by decide) 0
  have w179 : dt169 7 3 = dt145 7 3 := hF171 7 (by decide) 3
  have w180 : dt169 10 3 = dt145 10 3 := hF171 10 (by decide) 3
  have w181 : dt169 12 3 = dt145 12 3 := hF171 12 (by decide) 3
  have w182 : dt169 14 3 = dt145 14 3 := hF171 14 (by decide) 3
  have w183 : dt169 16 3 = dt145 16 3 := hF171 16 (by decide) 3
  rcases h168 with ⟨rfl, h168⟩
  obtain ⟨h168_0, h168_1⟩ := h168
  have T184 : ∀ j : Nat, j < 192 → dt169 19 j = dt 2 j := fun j hj => (hF171 19 (by decide) j).trans (T160 j hj)
  have T185 : ∀ j : Nat, j < 8 → dt169 20 j = dt 3 j := fun j hj => (hF171 20 (by decide) j).trans (T161 j hj)
  have T186 : ∀ j : Nat, j < 256 → dt169 21 j = dt 4 j := fun j hj => (hF171 21 (by decide) j).trans (T162 j hj)
  have T187 : ∀ j : Nat, j < 4 → dt169 22 j = dt 5 j := fun j hj => (hF171 22 (by decide) j).trans (T163 j hj)
  have T188 : ∀ j : Nat, j < 2000 → dt169 23 j = dt 6 j := fun j hj => (hF171 23 (by decide) j).trans (T164 j hj)
  have T189 : ∀ j : Nat, j < 60 → dt169 25 j = dt 8 j := fun j hj => (hF171 25 (by decide) j).trans (T165 j hj)
  have T190 : ∀ j : Nat, j < 132 → dt169 26 j = dt 9 j := fun j hj => (hF171 26 (by decide) j).trans (T166 j hj)
  have T191 : ∀ j : Nat, j < 160 → dt169 28 j = dt 11 j := fun j hj => (hF171 28 (by decide) j).trans (T167 j hj)
  have T192 : ∀ j : Nat, j < 1800 → dt169 30 j = dt 13 j := fun j hj => (h168_1 j hj).trans (hF148 13 (by decide) j)
  refine go_toq PM4 (k := 4) (pc' := 157) (L' := [some (.inr (.inr (some 18))), some (.inr (.inr (some 1)))]) (st' := [.inr (.inr (some 14)), .inr (.inr (some 31))]) (w' := (SH, dt169)) rfl ?_
  refine go_callq PM4 PM42 (Q' := _) rfl rfl rfl rfl (sp_X2_copyFrom_31 L xs sio (d + 0) dt169 hI170   ) ?_
  rintro _ _ ⟨dt194, rfl, hI195, hF196, h193⟩
  refine ⟨rfl, ?_⟩
  have hF197 : Fr [18, 19, 20, 21, 22, 23, 24, 25, 26, 27, 28, 29, 30, 31, 32, 33, 34] dt dt194 := Fr_tr hF172 hF196 (by decide)
  have w198 : dt194 18 0 = dt169 18 0 := hF196 18 (by decide) 0
  have w199 : dt194 24 3 = dt169 24 3 := hF196 24 (by decide) 3
  have w200 : dt194 27 3 = dt169 27 3 := hF196 27 (by decide) 3
  have w201 : dt194 29 3 = dt169 29 3 := hF196 29 (by decide) 3
  have w202 : dt194 33 3 = dt169 33 3 := hF196 33 (by decide) 3
  have w203 : dt194 1 0 = dt169 1 0 := hF196 1 (by decide) 0
  have w204 : dt194 7 3 = dt169 7 3 := hF196 7 (by decide) 3
  have w205 : dt194 10 3 = dt169 10 3 := hF196 10 (by decide) 3
  have w206 : dt194 12 3 = dt169 12 3 := hF196 12 (by decide) 3
  have w207 : dt194 14 3 = dt169 14 3 := hF196 14 (by decide) 3
  have w208 : dt194 16 3 = dt169 16 3 := hF196 16 (by decide) 3
  rcases h193 with ⟨rfl, h193⟩
  have T209 : ∀ j : Nat, j < 192 → dt194 19 j = dt 2 j := fun j hj => (hF196 19 (by decide) j).trans (T184 j hj)
  have T210 : ∀ j : Nat, j < 8 → dt194 20 j = dt 3 j := fun j hj => (hF196 20 (by decide) j).trans (T185 j hj)
  have T211 : ∀ j : Nat, j < 256 → dt194 21 j = dt 4 j := fun j hj => (hF196 21 (by decide) j).trans (T186 j hj)
  have T212 : ∀ j : Nat, j < 4 → dt194 22 j = dt 5 j := fun j hj => (hF196 22 (by decide) j).trans (T187 j hj)
  have T213 : ∀ j : Nat, j < 2000 → dt194 23 j = dt 6 j := fun j hj => (hF196 23 (by decide) j).trans (T188 j hj)
  have T214 : ∀ j : Nat, j < 60 → dt194 25 j = dt 8 j := fun j hj => (hF196 25 (by decide) j).trans (T189 j hj)
  have T215 : ∀ j : Nat, j < 132 → dt194 26 j = dt 9 j := fun j hj => (hF196 26 (by decide) j).trans (T190 j hj)
  have T216 : ∀ j : Nat, j < 160 → dt194 28 j = dt 11 j := fun j hj => (hF196 28 (by decide) j).trans (T191 j hj)
  have T217 : ∀ j : Nat, j < 1800 → dt194 30 j = dt 13 j := fun j hj => (hF196 30 (by decide) j).trans (T192 j hj)
  refine go_toq PM4 (k := 4) (pc' := 168) (L' := [some (.inr (.inr (some 18))), some (.inr (.inr (some 1)))]) (st' := [.inr (.inr (some 16)), .inr (.inr (some 33))]) (w' := (SH, dt194)) rfl ?_
  refine go_callq PM4 PM42 (Q' := _) rfl rfl rfl rfl (sp_X2_copyFrom_33 L xs sio (d + 0) dt194 hI195   ) ?_
  rintro _ _ ⟨dt219, rfl, hI220, hF221, h218⟩
  refine ⟨rfl, ?_⟩
  have hF222 : Fr [18, 19, 20, 21, 22, 23, 24, 25, 26, 27, 28, 29, 30, 31, 32, 33, 34] dt dt219 := Fr_tr hF197 hF221 (by decide)
  have w223 : dt219 18 0 = dt194 18 0 := hF221 18 (by decide) 0
  have w224 : dt219 24 3 = dt194 24 3 := hF221 24 (by decide) 3
  have w225 : dt219 27 3 = dt194 27 3 := hF221 27 (by decide) 3
  have w226 : dt219 29 3 = dt194 29 3 := hF221 29 (by decide) 3
  have w227 : dt219 31 3 = dt194 31 3 := hF221 31 (by decide) 3
  have w228 : dt219 1 0 = dt194 1 0 := hF221 1 (by decide) 0
  have w229 : dt219 7 3 = dt194 7 3 := hF221 7 (by decide) 3
  have w230 : dt219 10 3 = dt194 10 3 := hF221 10 (by decide) 3
  have w231 : dt219 12 3 = dt194 12 3 := hF221 12 (by decide) 3
  have w232 : dt219 14 3 = dt194 14 3 := hF221 14 (by decide) 3
  have w233 : dt219 16 3 = dt194 16 3 := hF221 16 (by decide) 3
  rcases h218 with ⟨rfl, h218⟩
  have T234 : ∀ j : Nat, j < 192 → dt219 19 j = dt 2 j := fun j hj => (hF221 19 (by decide) j).trans (T209 j hj)
  have T235 : ∀ j : Nat, j < 8 → dt219 20 j = dt 3 j := fun j hj => (hF221 20 (by decide) j).trans (T210 j hj)
  have T236 : ∀ j : Nat, j < 256 → dt219 21 j = dt 4 j := fun j hj => (hF221 21 (by decide) j).trans (T211 j hj)
  have T237 : ∀ j : Nat, j < 4 → dt219 22 j = dt 5 j := fun j hj => (hF221 22 (by decide) j).trans (T212 j hj)
  have T238 : ∀ j : Nat, j < 2000 → dt219 23 j = dt 6 j := fun j hj => (hF221 23 (by decide) j).trans (T213 j hj)
  have T239 : ∀ j : Nat, j < 60 → dt219 25 j = dt 8 j := fun j hj => (hF221 25 (by decide) j).trans (T214 j hj)
  have T240 : ∀ j : Nat, j < 132 → dt219 26 j = dt 9 j := fun j hj => (hF221 26 (by decide) j).trans (T215 j hj)
  have T241 : ∀ j : Nat, j < 160 → dt219 28 j = dt 11 j := fun j hj => (hF221 28 (by decide) j).trans (T216 j hj)
  have T242 : ∀ j : Nat, j < 1800 → dt219 30 j = dt 13 j := fun j hj => (hF221 30 (by decide) j).trans (T217 j hj)
  refine go_retq PM4 (k := 0) (r := none) (w1 := (SH, dt219)) rfl ?_
  exact ⟨dt219, rfl, hI220, hF222, ⟨rfl, ⟨by first | exact True.intro | with_reducible assumption | rfl | omega | trivial, by first | exact True.intro | with_reducible assumption | rfl | omega | trivial, by first | exact True.intro | with_reducible assumption | rfl | omega | trivial, by first | exact True.intro | with_reducible assumption | rfl | omega | trivial, by first | exact True.intro | with_reducible assumption | rfl | omega | trivial, by first | exact True.intro | with_reducible assumption | rfl | omega | trivial, by exact T234, by exact T235, by exact T236, by exact T237, by exact T238, by exact T239, by exact T240, by exact T241, by exact T242⟩⟩⟩
theorem sp_X5_image_1a (L : Nat) (xs : Nat → Int32) (sio : Option Nat) (d : Nat) (dt : Nat → Nat → Int) (hI : InvC dt)    : GO (am_XX L xs sio) (d + 3) 98 0 [some (.inr (.inr (some 0))), some (.inl 1)] [] (SH, dt) (fun r w2 => ∃ dt2 : Nat → Nat → Int, w2 = (SH, dt2) ∧ InvC dt2 ∧ Fr [0, 18, 19, 20, 21, 22, 23, 24, 25, 26, 27, 28, 29, 30, 31, 32, 33, 34] dt dt2 ∧ ((∃ v : Int, r = some (.inl v) ∧ (0 ≤ v ∧ v ≤ 1) ∧ (v = 1) ∧ (dt2 0 2 = 1) ∧ (dt2 1 0 = dt 1 0) ∧ (dt2 7 3 = dt 7 3) ∧ (dt2 10 3 = dt 10 3) ∧ (dt2 12 3 = dt 12 3) ∧ (dt2 14 3 = dt 14 3) ∧ (dt2 16 3 = dt 16 3) ∧ (dt2 18 0 = dt 1 0) ∧ (dt2 24 3 = dt 7 3) ∧ (dt2 27 3 = dt 10 3) ∧ (dt2 29 3 = dt 12 3) ∧ (dt2 31 3 = dt 14 3) ∧ (dt2 33 3 = dt 16 3) ∧ (∀ j : Nat, j < 192 → dt2 2 j = dt 2 j) ∧ (∀ j : Nat, j < 8 → dt2 3 j = dt 3 j) ∧ (∀ j : Nat, j < 256 → dt2 4 j = dt 4 j) ∧ (∀ j : Nat, j < 4 → dt2 5 j = dt 5 j) ∧ (∀ j : Nat, j < 2000 → dt2 6 j = dt 6 j) ∧ (∀ j : Nat, j < 60 → dt2 8 j = dt 8 j) ∧ (∀ j : Nat, j < 132 → dt2 9 j = dt 9 j) ∧ (∀ j : Nat, j < 160 → dt2 11 j = dt 11 j) ∧ (∀ j : Nat, j < 1800 → dt2 13 j = dt 13 j) ∧ (∀ j : Nat, j < 192 → dt2 19 j = dt 2 j) ∧ (∀ j : Nat, j < 8 → dt2 20 j = dt 3 j) ∧ (∀ j : Nat, j < 256 → dt2 21 j = dt 4 j) ∧ (∀ j : Nat, j < 4 → dt2 22 j = dt 5 j) ∧ (∀ j : Nat, j < 2000 → dt2 23 j = dt 6 j) ∧ (∀ j : Nat, j < 60 → dt2 25 j = dt 8 j) ∧ (∀ j : Nat, j < 132 → dt2 26 j = dt 9 j) ∧ (∀ j : Nat, j < 160 → dt2 28 j = dt 11 j) ∧ (∀ j : Nat, j < 1800 → dt2 30 j = dt 13 j)))) := by
  have hF : Fr [0, 18, 19, 20, 21, 22, 23, 24, 25, 26, 27, 28, 29, 30, 31, 32, 33, 34] dt dt := Fr_refl
  have r1 : 0 ≤ dt 0 2 ∧ dt 0 2 ≤ 1 := InvC_get hI 0 2 rfl rfl
  refine go_toq PM98 (k := 6) (pc' := 12) (L' := [some (.inr (.inr (some 0))), some (.inl 1)]) (st' := [.inr (.inr (some 1)), .inr (.inr (some 18))]) (w' := (SH, dt)) rfl ?_
  refine go_callq PM98 PM4 (Q' := _) rfl rfl rfl rfl (sp_X0_copyFrom_18a L xs sio (d + 0) dt hI   ) ?_
  rintro _ _ ⟨dt3, rfl, hI4, hF5, h2⟩
  refine ⟨rfl, ?_⟩
  have hF6 : Fr [0, 18, 19, 20, 21, 22, 23, 24, 25, 26, 27, 28, 29, 30, 31, 32, 33, 34] dt dt3 := Fr_tr hF hF5 (by decide)
  have w7 : dt3 0 2 = dt 0 2 := hF5 0 (by decide) 2
  have w8 : dt3 1 0 = dt 1 0 := hF5 1 (by decide) 0
  have w9 : dt3 7 3 = dt 7 3 := hF5 7 (by decide) 3
  have w10 : dt3 10 3 = dt 10 3 := hF5 10 (by decide) 3
  have w11 : dt3 12 3 = dt 12 3 := hF5 12 (by decide) 3
  have w12 : dt3 14 3 = dt 14 3 := hF5 14 (by decide) 3
  have w13 : dt3 16 3 = dt 16 3 := hF5 16 (by decide) 3
  rcases h2 with ⟨rfl, h2⟩
  obtain ⟨h2_0, h2_1, h2_2, h2_3, h2_4, h2_5, h2_6, h2_7, h2_8, h2_9, h2_10, h2_11, h2_12, h2_13, h2_14⟩ := h2
  refine go_toq PM98 (k := 2) (pc' := 17) (L' := [some (.inr (.inr (some 0))), some (.inl 1)]) (st' := [.inl 1, .inr (.inr (some 0))]) (w' := (SH, dt3)) rfl ?_
  have hI14 : InvC (u2 dt3 0 2 1) := InvC_u2 hI4 (lo := 0) (hi := 1) rfl rfl rfl (by decide) (by decide)
  have hF15 : Fr [0, 18, 19, 20, 21, 22, 23, 24, 25, 26, 27, 28, 29, 30, 31, 32, 33, 34] dt (u2 dt3 0 2 1) := Fr_u2 hF6 (by decide)
  have w16 : (u2 dt3 0 2 1) 0 2 = 1 := rfl
  have w17 : (u2 dt3 0 2 1) 1 0 = dt3 1 0 := rfl
  have w18 : (u2 dt3 0 2 1) 7 3 = dt3 7 3 := rfl
  have w19 : (u2 dt3 0 2 1) 10 3 = dt3 10 3 := rfl
  have w20 : (u2 dt3 0 2 1) 12 3 = dt3 12 3 := rfl
  have w21 : (u2 dt3 0 2 1) 14 3 = dt3 14 3 := rfl
  have w22 : (u2 dt3 0 2 1) 16 3 = dt3 16 3 := rfl
  have w23 : (u2 dt3 0 2 1) 18 0 = dt3 18 0 := rfl
  have w24 : (u2 dt3 0 2 1) 24 3 = dt3 24 3 := rfl
  have w25 : (u2 dt3 0 2 1) 27 3 = dt3 27 3 := rfl
  have w26 : (u2 dt3 0 2 1) 29 3 = dt3 29 3 := rfl
  have w27 : (u2 dt3 0 2 1) 31 3 = dt3 31 3 := rfl
  have w28 : (u2 dt3 0 2 1) 33 3 = dt3 33 3 := rfl
  refine go_smpq PM98 (L' := [some (.inr (.inr (some 0))), some (.inl 1)]) (st' := []) (w' := (SH, (u2 dt3 0 2 1))) rfl rfl (s_pfz rfl rfl rfl rfl (by omega)) ?_
  refine go_retq PM98 (k := 3) (r := some (.inl 1)) (w1 := (SH, (u2 dt3 0 2 1))) rfl ?_
  exact ⟨(u2 dt3 0 2 1), rfl, hI14, hF15, ⟨_, rfl, ⟨by decide, by decide⟩, ⟨by first | exact True.intro | with_reducible assumption | rfl | omega | trivial, by first | exact True.intro | with_reducible assumption | rfl | omega | trivial, by first | exact True.intro | with_reducible assumption | rfl | omega | trivial, by first | exact True.intro | with_reducible assumption | rfl | omega | trivial, by first | exact True.intro | with_reducible assumption | rfl | omega | trivial, by first | exact True.intro | with_reducible assumption | rfl | omega | trivial, by first | exact True.intro | with_reducible assumption | rfl | omega | trivial, by first | exact True.intro | with_reducible assumption | rfl | omega | trivial, by first | exact True.intro | with_reducible assumption | rfl | omega | trivial, by first | exact True.intro | with_reducible assumption | rfl | omega | trivial, by first | exact True.intro | with_reducible assumption | rfl | omega | trivial, by first | exact True.intro | with_reducible assumption | rfl | omega | trivial, by first | exact True.intro | with_reducible assumption | rfl | omega | trivial, by first | exact True.intro | with_reducible assumption | rfl | omega | trivial, by first | exact fun _ _ => rfl | exact hI | exact fun j _ => hF5 2 (by decide) j, by first | exact fun _ _ => rfl | exact hI | exact fun j _ => hF5 3 (by decide) j, by first | exact fun _ _ => rfl | exact hI | exact fun j _ => hF5 4 (by decide) j, by first | exact fun _ _ => rfl | exact hI | exact fun j _ => hF5 5 (by decide) j, by first | exact fun _ _ => rfl | exact hI | exact fun j _ => hF5 6 (by decide) j, by first | exact fun _ _ => rfl | exact hI | exact fun j _ => hF5 8 (by decide) j, by first | exact fun _ _ => rfl | exact hI | exact fun j _ => hF5 9 (by decide) j, by first | exact fun _ _ => rfl | exact hI | exact fun j _ => hF5 11 (by decide) j, by first | exact fun _ _ => rfl | exact hI | exact fun j _ => hF5 13 (by decide) j, by first | exact fun _ _ => rfl | exact h2_6 | exact fun j _ => hF5 19 (by decide) j, by first | exact fun _ _ => rfl | exact h2_7 | exact fun j _ => hF5 20 (by decide) j, by first | exact fun _ _ => rfl | exact h2_8 | exact fun j _ => hF5 21 (by decide) j, by first | exact fun _ _ => rfl | exact h2_9 | exact fun j _ => hF5 22 (by decide) j, by first | exact fun _ _ => rfl | exact h2_10 | exact fun j _ => hF5 23 (by decide) j, by first | exact fun _ _ => rfl | exact h2_11 | exact fun j _ => hF5 25 (by decide) j, by first | exact fun _ _ => rfl | exact h2_12 | exact fun j _ => hF5 26 (by decide) j, by first | exact fun _ _ => rfl | exact h2_13 | exact fun j _ => hF5 28 (by decide) j, by first | exact fun _ _ => rfl | exact h2_14 | exact fun j _ => hF5 30 (by decide) j⟩⟩⟩
theorem sp_X5_image_0a (L : Nat) (xs : Nat → Int32) (sio : Option Nat) (d : Nat) (dt : Nat → Nat → Int) (hI : InvC dt)    : GO (am_XX L xs sio) (d + 3) 98 0 [some (.inr (.inr (some 0))), some (.inl 0)] [] (SH, dt) (fun r w2 => ∃ dt2 : Nat → Nat → Int, w2 = (SH, dt2) ∧ InvC dt2 ∧ Fr [1, 2, 3, 4, 5, 6, 7, 8, 9, 10, 11, 12, 13, 14, 15, 16, 17] dt dt2 ∧ ((∃ v : Int, r = some (.inl v) ∧ (0 ≤ v ∧ v ≤ 1) ∧ (v = 1) ∧ (dt 0 2 = 1) ∧ (dt2 0 2 = 1) ∧ (dt2 1 0 = dt 18 0) ∧ (dt2 7 3 = dt 24 3) ∧ (dt2 10 3 = dt 27 3) ∧ (dt2 12 3 = dt 29 3) ∧ (dt2 14 3 = dt 31 3) ∧ (dt2 16 3 = dt 33 3) ∧ (dt2 18 0 = dt 18 0) ∧ (dt2 24 3 = dt 24 3) ∧ (dt2 27 3 = dt 27 3) ∧ (dt2 29 3 = dt 29 3) ∧ (dt2 31 3 = dt 31 3) ∧ (dt2 33 3 = dt 33 3) ∧ (∀ j : Nat, j < 192 → dt2 2 j = dt 19 j) ∧ (∀ j : Nat, j < 8 → dt2 3 j = dt 20 j) ∧ (∀ j : Nat, j < 256 → dt2 4 j = dt 21 j) ∧ (∀ j : Nat, j < 4 → dt2 5 j = dt 22 j) ∧ (∀ j : Nat, j < 2000 → dt2 6 j = dt 23 j) ∧ (∀ j : Nat, j < 60 → dt2 8 j = dt 25 j) ∧ (∀ j : Nat, j < 132 → dt2 9 j = dt 26 j) ∧ (∀ j : Nat, j < 160 → dt2 11 j = dt 28 j) ∧ (∀ j : Nat, j < 1800 → dt2 13 j = dt 30 j) ∧ (∀ j : Nat, j < 192 → dt2 19 j = dt 19 j) ∧ (∀ j : Nat, j < 8 → dt2 20 j = dt 20 j) ∧ (∀ j : Nat, j < 256 → dt2 21 j = dt 21 j) ∧ (∀ j : Nat, j < 4 → dt2 22 j = dt 22 j) ∧ (∀ j : Nat, j < 2000 → dt2 23 j = dt 23 j) ∧ (∀ j : Nat, j < 60 → dt2 25 j = dt 25 j) ∧ (∀ j : Nat, j < 132 → dt2 26 j = dt 26 j) ∧ (∀ j : Nat, j < 160 → dt2 28 j = dt 28 j) ∧ (∀ j : Nat, j < 1800 → dt2 30 j = dt 30 j)) ∨ (∃ v : Int, r = some (.inl v) ∧ (0 ≤ v ∧ v ≤ 1) ∧ (v = 0) ∧ (dt 0 2 = 0) ∧ (dt2 0 2 = 0) ∧ (dt2 1 0 = dt 1 0) ∧ (dt2 7 3 = dt 7 3) ∧ (dt2 10 3 = dt 10 3) ∧ (dt2 12 3 = dt 12 3) ∧ (dt2 14 3 = dt 14 3) ∧ (dt2 16 3 = dt 16 3) ∧ (dt2 18 0 = dt 18 0) ∧ (dt2 24 3 = dt 24 3) ∧ (dt2 27 3 = dt 27 3) ∧ (dt2 29 3 = dt 29 3) ∧ (dt2 31 3 = dt 31 3) ∧ (dt2 33 3 = dt 33 3) ∧ (∀ j : Nat, j < 192 → dt2 2 j = dt 2 j) ∧ (∀ j : Nat, j < 8 → dt2 3 j = dt 3 j) ∧ (∀ j : Nat, j < 256 → dt2 4 j = dt 4 j) ∧ (∀ j : Nat, j < 4 → dt2 5 j = dt 5 j) ∧ (∀ j : Nat, j < 2000 → dt2 6 j = dt 6 j) ∧ (∀ j : Nat, j < 60 → dt2 8 j = dt 8 j) ∧ (∀ j : Nat, j < 132 → dt2 9 j = dt 9 j) ∧ (∀ j : Nat, j < 160 → dt2 11 j = dt 11 j) ∧ (∀ j : Nat, j < 1800 → dt2 13 j = dt 13 j) ∧ (∀ j : Nat, j < 192 → dt2 19 j = dt 19 j) ∧ (∀ j : Nat, j < 8 → dt2 20 j = dt 20 j) ∧ (∀ j : Nat, j < 256 → dt2 21 j = dt 21 j) ∧ (∀ j : Nat, j < 4 → dt2 22 j = dt 22 j) ∧ (∀ j : Nat, j < 2000 → dt2 23 j = dt 23 j) ∧ (∀ j : Nat, j < 60 → dt2 25 j = dt 25 j) ∧ (∀ j : Nat, j < 132 → dt2 26 j = dt 26 j) ∧ (∀ j : Nat, j < 160 → dt2 28 j = dt 28 j) ∧ (∀ j : Nat, j < 1800 → dt2 30 j = dt 30 j)))) := by
  have hF : Fr [1, 2, 3, 4, 5, 6, 7, 8, 9, 10, 11, 12, 13, 14, 15, 16, 17] dt dt := Fr_refl
  have r1 : 0 ≤ dt 0 2 ∧ dt 0 2 ≤ 1 := InvC_get hI 0 2 rfl rfl
  refine go_ifq PM98 (k := 4) (p1 := 41) (p2 := 30) (L' := [some (.inr (.inr (some 0))), some (.inl 0)]) (st' := []) (w' := (SH, dt)) rfl (z_eq (a := dt 0 2) (by first | exact bnd r1 (by decide) (by decide) | exact ⟨by omega, by omega⟩)) (fun c2 => ?_) (fun c2 => ?_)
  · skip
    refine go_toq PM98 (k := 2) (pc' := 45) (L' := [some (.inr (.inr (some 0))), some (.inl 0)]) (st' := [.inl (dt 0 2)]) (w' := (SH, dt)) rfl ?_
    refine go_retvq PM98 (v := dt 0 2) rfl (decide_eq_true (show dt 0 2 = 0 ∨ dt 0 2 = 1 by omega)) ?_
    first | exact ⟨dt, rfl, hI, hF, (Or.inl ⟨_, rfl, ⟨by omega, by omega⟩, ⟨by first | exact True.intro | with_reducible assumption | rfl | omega | trivial, by first | exact True.intro | with_reducible assumption | rfl | omega | trivial, by first | exact True.intro | with_reducible assumption | rfl | omega | trivial, by first | exact True.intro | with_reducible assumption | rfl | omega | trivial, by first | exact True.intro | with_reducible assumption | rfl | omega | trivial, by first | exact True.intro | with_reducible assumption | rfl | omega | trivial, by first | exact True.intro | with_reducible assumption | rfl | omega | trivial, by first | exact True.intro | with_reducible assumption | rfl | omega | trivial, by first | exact True.intro | with_reducible assumption | rfl | omega | trivial, by first | exact True.intro | with_reducible assumption | rfl | omega | trivial, by first | exact True.intro | with_reducible assumption | rfl | omega | trivial, by first | exact True.intro | with_reducible assumption | rfl | omega | trivial, by first | exact True.intro | with_reducible assumption | rfl | omega | trivial, by first | exact True.intro | with_reducible assumption | rfl | omega | trivial, by first | exact True.intro | with_reducible assumption | rfl | omega | trivial, by first | exact fun _ _ => rfl | exact hI | exact fun j _ => hI 2 (by decide) j, by first | exact fun _ _ => rfl | exact hI | exact fun j _ => hI 3 (by decide) j, by first | exact fun _ _ => rfl | exact hI | exact fun j _ => hI 4 (by decide) j, by first | exact fun _ _ => rfl | exact hI | exact fun j _ => hI 5 (by decide) j, by first | exact fun _ _ => rfl | exact hI | exact fun j _ => hI 6 (by decide) j, by first | exact fun _ _ => rfl | exact hI | exact fun j _ => hI 8 (by decide) j, by first | exact fun _ _ => rfl | exact hI | exact fun j _ => hI 9 (by decide) j, by first | exact fun _ _ => rfl | exact hI | exact fun j _ => hI 11 (by decide) j, by first | exact fun _ _ => rfl | exact hI | exact fun j _ => hI 13 (by decide) j, by first | exact fun _ _ => rfl | exact hI | exact fun j _ => hI 19 (by decide) j, by first | exact fun _ _ => rfl | exact hI | exact fun j _ => hI 20 (by decide) j, by first | exact fun _ _ => rfl | exact hI | exact fun j _ => hI 21 (by decide) j, by first | exact fun _ _ => rfl | exact hI | exact fun j _ => hI 22 (by decide) j, by first | exact fun _ _ => rfl | exact hI | exact fun j _ => hI 23 (by decide) j, by first | exact fun _ _ => rfl | exact hI | exact fun j _ => hI 25 (by decide) j, by first | exact fun _ _ => rfl | exact hI | exact fun j _ => hI 26 (by decide) j, by first | exact fun _ _ => rfl | exact hI | exact fun j _ => hI 28 (by decide) j, by first | exact fun _ _ => rfl | exact hI | exact fun j _ => hI 30 (by decide) j⟩⟩)⟩ | exact ⟨dt, rfl, hI, hF, (Or.inr ⟨_, rfl, ⟨by omega, by omega⟩, ⟨by first | exact True.intro | with_reducible assumption | rfl | omega | trivial, by first | exact True.intro | with_reducible assumption | rfl | omega | trivial, by first | exact True.intro | with_reducible assumption | rfl | omega | trivial, by first | exact True.intro | with_reducible assumption | rfl | omega | trivial, by first | exact True.intro | with_reducible assumption | rfl | omega | trivial, by first | exact True.intro | with_reducible assumption | rfl | omega | trivial, by first | exact True.intro | with_reducible assumption | rfl | omega | trivial, by first | exact True.intro | with_reducible assumption | rfl | omega | trivial, by first | exact True.intro | with_reducible assumption | rfl | omega | trivial, by first | exact True.intro | with_reducible assumption | rfl | omega | trivial, by first | exact True.intro | with_reducible assumption | rfl | omega | trivial, by first | exact True.intro | with_reducible assumption | rfl | omega | trivial, by first | exact True.intro | with_reducible assumption | rfl | omega | trivial, by first | exact True.intro | with_reducible assumption | rfl | omega | trivial, by first | exact True.intro | with_reducible assumption | rfl | omega | trivial, by first | exact fun _ _ => rfl | exact hI | exact fun j _ => hI 2 (by decide) j, by first | exact fun _ _ => rfl | exact hI | exact fun j _ => hI 3 (by decide) j, by first | exact fun _ _ => rfl | exact hI | exact fun j _ => hI 4 (by decide) j, by first | exact fun _ _ => rfl | exact hI | exact fun j _ => hI 5 (by decide) j, by first | exact fun _ _ => rfl | exact hI | exact fun j _ => hI 6 (by decide) j, by first | exact fun _ _ => rfl | exact hI | exact fun j _ => hI 8 (by decide) j, by first | exact fun _ _ => rfl | exact hI | exact fun j _ => hI 9 (by decide) j, by first | exact fun _ _ => rfl | exact hI | exact fun j _ => hI 11 (by decide) j, by first | exact fun _ _ => rfl | exact hI | exact fun j _ => hI 13 (by decide) j, by first | exact fun _ _ => rfl | exact hI | exact fun j _ => hI 19 (by decide) j, by first | exact fun _ _ => rfl | exact hI | exact fun j _ => hI 20 (by decide) j, by first | exact fun _ _ => rfl | exact hI | exact fun j _ => hI 21 (by decide) j, by first | exact fun _ _ => rfl | exact hI | exact fun j _ => hI 22 (by decide) j, by first | exact fun _ _ => rfl | exact hI | exact fun j _ => hI 23 (by decide) j, by first | exact fun _ _ => rfl | exact hI | exact fun j _ => hI 25 (by decide) j, by first | exact fun _ _ => rfl | exact hI | exact fun j _ => hI 26 (by decide) j, by first | exact fun _ _ => rfl | exact hI | exact fun j _ => hI 28 (by decide) j, by first | exact fun _ _ => rfl | exact hI | exact fun j _ => hI 30 (by decide) j⟩⟩)⟩
  · skip
    have qc2 : 1 ≤ dt 0 2 := by omega
    replace c2 := hid c2
    refine go_toq PM98 (k := 4) (pc' := 38) (L' := [some (.inr (.inr (some 0))), some (.inl 0)]) (st' := [.inr (.inr (some 18)), .inr (.inr (some 1))]) (w' := (SH, dt)) rfl ?_
    refine go_callq PM98 PM4 (Q' := _) rfl rfl rfl rfl (sp_X0_copyFrom_1a L xs sio (d + 0) dt hI   ) ?_
    rintro _ _ ⟨dt4, rfl, hI5, hF6, h3⟩
    refine ⟨rfl, ?_⟩
    have hF7 : Fr [1, 2, 3, 4, 5, 6, 7, 8, 9, 10, 11, 12, 13, 14, 15, 16, 17] dt dt4 := Fr_tr hF hF6 (by decide)
    have w8 : dt4 0 2 = dt 0 2 := hF6 0 (by decide) 2
    have w9 : dt4 18 0 = dt 18 0 := hF6 18 (by decide) 0
    have w10 : dt4 24 3 = dt 24 3 := hF6 24 (by decide) 3
    have w11 : dt4 27 3 = dt 27 3 := hF6 27 (by decide) 3
    have w12 : dt4 29 3 = dt 29 3 := hF6 29 (by decide) 3
    have w13 : dt4 31 3 = dt 31 3 := hF6 31 (by decide) 3
    have w14 : dt4 33 3 = dt 33 3 := hF6 33 (by decide) 3
    rcases h3 with ⟨rfl, h3⟩
    obtain ⟨h3_0, h3_1, h3_2, h3_3, h3_4, h3_5, h3_6, h3_7, h3_8, h3_9, h3_10, h3_11, h3_12, h3_13, h3_14⟩ := h3
    have r15 : 0 ≤ dt4 0 2 ∧ dt4 0 2 ≤ 1 := InvC_get hI5 0 2 rfl rfl
    refine go_toq PM98 (k := 2) (pc' := 45) (L' := [some (.inr (.inr (some 0))), some (.inl 0)]) (st' := [.inl (dt4 0 2)]) (w' := (SH, dt4)) rfl ?_
    refine go_retvq PM98 (v := dt4 0 2) rfl (decide_eq_true (show dt4 0 2 = 0 ∨ dt4 0 2 = 1 by (first | omega | (have z0_ := unhid c2; omega)))) ?_
    first | exact ⟨dt4, rfl, hI5, hF7, (Or.inl ⟨_, rfl, ⟨by (first | omega | (have z0_ := unhid c2; omega)), by (first | omega | (have z0_ := unhid c2; omega))⟩, ⟨by first | exact True.intro | with_reducible assumption | exact unhid (by with_reducible assumption) | rfl | (first | omega | (have z0_ := unhid c2; omega)) | trivial, by first | exact True.intro | with_reducible assumption | exact unhid (by with_reducible assumption) | rfl | (first | omega | (have z0_ := unhid c2; omega)) | trivial, by first | exact True.intro | with_reducible assumption | exact unhid (by with_reducible assumption) | rfl | (first | omega | (have z0_ := unhid c2; omega)) | trivial, by first | exact True.intro | with_reducible assumption | exact unhid (by with_reducible assumption) | rfl | (first | omega | (have z0_ := unhid c2; omega)) | trivial, by first | exact True.intro | with_reducible assumption | exact unhid (by with_reducible assumption) | rfl | (first | omega | (have z0_ := unhid c2; omega)) | trivial, by first | exact True.intro | with_reducible assumption | exact unhid (by with_reducible assumption) | rfl | (first | omega | (have z0_ := unhid c2; omega)) | trivial, by first | exact True.intro | with_reducible assumption | exact unhid (by with_reducible assumption) | rfl | (first | omega | (have z0_ := unhid c2; omega)) | trivial, by first | exact True.intro | with_reducible assumption | exact unhid (by with_reducible assumption) | rfl | (first | omega | (have z0_ := unhid c2; omega)) | trivial, by first | exact True.intro | with_reducible assumption | exact unhid (by with_reducible assumption) | rfl | (first | omega | (have z0_ := unhid c2; omega)) | trivial, by first | exact True.intro | with_reducible assumption | exact unhid (by with_reducible assumption) | rfl | (first | omega | (have z0_ := unhid c2; omega)) | trivial, by first | exact True.intro | with_reducible assumption | exact unhid (by with_reducible assumption) | rfl | (first | omega | (have z0_ := unhid c2; omega)) | trivial, by first | exact True.intro | with_reducible assumption | exact unhid (by with_reducible assumption) | rfl | (first | omega | (have z0_ := unhid c2; omega)) | trivial, by first | exact True.intro | with_reducible assumption | exact unhid (by with_reducible assumption) | rfl | (first | omega | (have z0_ := unhid c2; omega)) | trivial, by first | exact True.intro | with_reducible assumption | exact unhid (by with_reducible assumption) | rfl | (first | omega | (have z0_ := unhid c2; omega)) | trivial, by first | exact True.intro | with_reducible assumption | exact unhid (by with_reducible assumption) | rfl | (first | omega | (have z0_ := unhid c2; omega)) | trivial, by first | exact fun _ _ => rfl | exact h3_6 | exact fun j _ => hF6 2 (by decide) j, by first | exact fun _ _ => rfl | exact h3_7 | exact fun j _ => hF6 3 (by decide) j, by first | exact fun _ _ => rfl | exact h3_8 | exact fun j _ => hF6 4 (by decide) j, by first | exact fun _ _ => rfl | exact h3_9 | exact fun j _ => hF6 5 (by decide) j, by first | exact fun _ _ => rfl | exact h3_10 | exact fun j _ => hF6 6 (by decide) j, by first | exact fun _ _ => rfl | exact h3_11 | exact fun j _ => hF6 8 (by decide) j, by first | exact fun _ _ => rfl | exact h3_12 | exact fun j _ => hF6 9 (by decide) j, by first | exact fun _ _ => rfl | exact h3_13 | exact fun j _ => hF6 11 (by decide) j, by first | exact fun _ _ => rfl | exact h3_14 | exact fun j _ => hF6 13 (by decide) j, by first | exact fun _ _ => rfl | exact hI | exact fun j _ => hF6 19 (by decide) j, by first | exact fun _ _ => rfl | exact hI | exact fun j _ => hF6 20 (by decide) j, by first | exact fun _ _ => rfl | exact hI | exact fun j _ => hF6 21 (by decide) j, by first | exact fun _ _ => rfl | exact hI | exact fun j _ => hF6 22 (by decide) j, by first | exact fun _ _ => rfl | exact hI | exact fun j _ => hF6 23 (by decide) j, by first | exact fun _ _ => rfl | exact hI | exact fun j _ => hF6 25 (by decide) j, by first | exact fun _ _ => rfl | exact hI | exact fun j _ => hF6 26 (by decide) j, by first | exact fun _ _ => rfl | exact hI | exact fun j _ => hF6 28 (by decide) j, by first | exact fun _ _ => rfl | exact hI | exact fun j _ => hF6 30 (by decide) j⟩⟩)⟩ | exact ⟨dt4, rfl, hI5, hF7, (Or.inr ⟨_, rfl, ⟨by (first | omega | (have z0_ := unhid c2; omega)), by (first | omega | (have z0_ := unhid c2; omega))⟩, ⟨by first | exact True.intro | with_reducible assumption | exact unhid (by with_reducible assumption) | rfl | (first | omega | (have z0_ := unhid c2; omega)) | trivial, by first | exact True.intro | with_reducible assumption | exact unhid (by with_reducible assumption) | rfl | (first | omega | (have z0_ := unhid c2; omega)) | trivial, by first | exact True.intro | with_reducible assumption | exact unhid (by with_reducible assumption) | rfl | (first | omega | (have z0_ := unhid c2; omega)) | trivial, by first | exact True.intro | with_reducible assumption | exact unhid (by with_reducible assumption) | rfl | (first | omega | (have z0_ := unhid c2; omega)) | trivial, by first | exact True.intro | with_reducible assumption | exact unhid (by with_reducible assumption) | rfl | (first | omega | (have z0_ := unhid c2; omega)) | trivial, by first | exact True.intro | with_reducible assumption | exact unhid (by with_reducible assumption) | rfl | (first | omega | (have z0_ := unhid c2; omega)) | trivial, by first | exact True.intro | with_reducible assumption | exact unhid (by with_reducible assumption) | rfl | (first | omega | (have z0_ := unhid c2; omega)) | trivial, by first | exact True.intro | with_reducible assumption | exact unhid (by with_reducible assumption) | rfl | (first | omega | (have z0_ := unhid c2; omega)) | trivial, by first | exact True.intro | with_reducible assumption | exact unhid (by with_reducible assumption) | rfl | (first | omega | (have z0_ := unhid c2; omega)) | trivial, by first | exact True.intro | with_reducible assumption | exact unhid (by with_reducible assumption) | rfl | (first | omega | (have z0_ := unhid c2; omega)) | trivial, by first | exact True.intro | with_reducible assumption | exact unhid (by with_reducible assumption) | rfl | (first | omega | (have z0_ := unhid c2; omega)) | trivial, by first | exact True.intro | with_reducible assumption | exact unhid (by with_reducible assumption) | rfl | (first | omega | (have z0_ := unhid c2; omega)) | trivial, by first | exact True.intro | with_reducible assumption | exact unhid (by with_reducible assumption) | rfl | (first | omega | (have z0_ := unhid c2; omega)) | trivial, by first | exact True.intro | with_reducible assumption | exact unhid (by with_reducible assumption) | rfl | (first | omega | (have z0_ := unhid c2; omega)) | trivial, by first | exact True.intro | with_reducible assumption | exact unhid (by with_reducible assumption) | rfl | (first | omega | (have z0_ := unhid c2; omega)) | trivial, by first | exact fun _ _ => rfl | exact h3_6 | exact fun j _ => hF6 2 (by decide) j, by first | exact fun _ _ => rfl | exact h3_7 | exact fun j _ => hF6 3 (by decide) j, by first | exact fun _ _ => rfl | exact h3_8 | exact fun j _ => hF6 4 (by decide) j, by first | exact fun _ _ => rfl | exact h3_9 | exact fun j _ => hF6 5 (by decide) j, by first | exact fun _ _ => rfl | exact h3_10 | exact fun j _ => hF6 6 (by decide) j, by first | exact fun _ _ => rfl | exact h3_11 | exact fun j _ => hF6 8 (by decide) j, by first | exact fun _ _ => rfl | exact h3_12 | exact fun j _ => hF6 9 (by decide) j, by first | exact fun _ _ => rfl | exact h3_13 | exact fun j _ => hF6 11 (by decide) j, by first | exact fun _ _ => rfl | exact h3_14 | exact fun j _ => hF6 13 (by decide) j, by first | exact fun _ _ => rfl | exact hI | exact fun j _ => hF6 19 (by decide) j, by first | exact fun _ _ => rfl | exact hI | exact fun j _ => hF6 20 (by decide) j, by first | exact fun _ _ => rfl | exact hI | exact fun j _ => hF6 21 (by decide) j, by first | exact fun _ _ => rfl | exact hI | exact fun j _ => hF6 22 (by decide) j, by first | exact fun _ _ => rfl | exact hI | exact fun j _ => hF6 23 (by decide) j, by first | exact fun _ _ => rfl | exact hI | exact fun j _ => hF6 25 (by decide) j, by first | exact fun _ _ => rfl | exact hI | exact fun j _ => hF6 26 (by decide) j, by first | exact fun _ _ => rfl | exact hI | exact fun j _ => hF6 28 (by decide) j, by first | exact fun _ _ => rfl | exact hI | exact fun j _ => hF6 30 (by decide) j⟩⟩)⟩
