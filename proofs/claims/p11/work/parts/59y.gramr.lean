set_option maxRecDepth 20000 in
theorem sp_X6_lay_g (L : Nat) (xs : Nat → Int32) (sio : Option Nat) (d : Nat) (dt : Nat → Nat → Int) (hI : InvC dt)  (p1 : Int) (h_p1 : 0 ≤ p1 ∧ p1 ≤ 16) (p2 : Int) (h_p2 : (-2147483648) ≤ p2 ∧ p2 ≤ 2147483647) (h_p0 : dt 79 11 ≤ 509) : GO (am_XX L xs sio) (d) 163 0 [some (.inr (.inr (some 79))), some (.inl p1), some (.inl p2)] [] (SH, dt) (fun r w2 => ∃ dt2 : Nat → Nat → Int, w2 = (SH, dt2) ∧ InvC dt2 ∧ Fr [79, 84] dt dt2 ∧ ((r = none ∧ (dt2 79 11 = dt 79 11 + 1) ∧ (dt2 79 2 = dt 79 2) ∧ (dt2 79 9 = dt 79 9) ∧ (dt2 79 10 = dt 79 10) ∧ (dt2 79 12 = dt 79 12) ∧ (dt2 79 13 = dt 79 13) ∧ (dt2 79 14 = dt 79 14) ∧ (dt2 79 15 = dt 79 15) ∧ (dt2 79 16 = dt 79 16) ∧ (dt2 79 17 = dt 79 17) ∧ (dt2 79 20 = dt 79 20)))) := by
  have hF : Fr [79, 84] dt dt := Fr_refl
  have r1 : 0 ≤ dt 79 11 ∧ dt 79 11 ≤ 510 := InvC_get hI 79 11 rfl rfl
  refine go_toq PM163 (k := 7) (pc' := 11) (L' := [some (.inr (.inr (some 79))), some (.inl p1), some (.inl p2)]) (st' := [.inl p1, .inl (2 * (dt 79 11)), .inr (.inr (some 84))]) (w' := (SH, dt)) rfl ?_
  have hI2 : InvC (u2 dt 84 ((2 * (dt 79 11)).toNat) p1) := InvC_u2 hI (lo := -2147483648) (hi := 2147483647) rfl rfl rfl (by first | exact bnd1 h_p1 (by decide) | omega) (by first | exact bnd2 h_p1 (by decide) | omega)
  have hF3 : Fr [79, 84] dt (u2 dt 84 ((2 * (dt 79 11)).toNat) p1) := Fr_u2 hF (by decide)
  have w4 : (u2 dt 84 ((2 * (dt 79 11)).toNat) p1) 79 2 = dt 79 2 := rfl
  have w5 : (u2 dt 84 ((2 * (dt 79 11)).toNat) p1) 79 9 = dt 79 9 := rfl
  have w6 : (u2 dt 84 ((2 * (dt 79 11)).toNat) p1) 79 10 = dt 79 10 := rfl
  have w7 : (u2 dt 84 ((2 * (dt 79 11)).toNat) p1) 79 11 = dt 79 11 := rfl
  have w8 : (u2 dt 84 ((2 * (dt 79 11)).toNat) p1) 79 12 = dt 79 12 := rfl
  have w9 : (u2 dt 84 ((2 * (dt 79 11)).toNat) p1) 79 13 = dt 79 13 := rfl
  have w10 : (u2 dt 84 ((2 * (dt 79 11)).toNat) p1) 79 14 = dt 79 14 := rfl
  have w11 : (u2 dt 84 ((2 * (dt 79 11)).toNat) p1) 79 15 = dt 79 15 := rfl
  have w12 : (u2 dt 84 ((2 * (dt 79 11)).toNat) p1) 79 16 = dt 79 16 := rfl
  have w13 : (u2 dt 84 ((2 * (dt 79 11)).toNat) p1) 79 17 = dt 79 17 := rfl
  have w14 : (u2 dt 84 ((2 * (dt 79 11)).toNat) p1) 79 18 = dt 79 18 := rfl
  have w15 : (u2 dt 84 ((2 * (dt 79 11)).toNat) p1) 79 20 = dt 79 20 := rfl
  refine go_smpq PM163 (L' := [some (.inr (.inr (some 79))), some (.inl p1), some (.inl p2)]) (st' := []) (w' := (SH, (u2 dt 84 ((2 * (dt 79 11)).toNat) p1))) rfl rfl (s_iast (n := 1020) rfl ⟨by omega, by omega⟩ (by first | exact bnd h_p1 (by decide) (by decide) | exact ⟨by omega, by omega⟩)) ?_
  refine go_toq PM163 (k := 9) (pc' := 25) (L' := [some (.inr (.inr (some 79))), some (.inl p1), some (.inl p2)]) (st' := [.inl p2, .inl ((2 * (dt 79 11)) + 1), .inr (.inr (some 84))]) (w' := (SH, (u2 dt 84 ((2 * (dt 79 11)).toNat) p1))) rfl ?_
  have hI16 : InvC (u2 (u2 dt 84 ((2 * (dt 79 11)).toNat) p1) 84 (((2 * (dt 79 11)) + 1).toNat) p2) := InvC_u2 hI2 (lo := -2147483648) (hi := 2147483647) rfl rfl rfl (by first | exact bnd1 h_p2 (by decide) | omega) (by first | exact bnd2 h_p2 (by decide) | omega)
  have hF17 : Fr [79, 84] dt (u2 (u2 dt 84 ((2 * (dt 79 11)).toNat) p1) 84 (((2 * (dt 79 11)) + 1).toNat) p2) := Fr_u2 hF3 (by decide)
  have w18 : (u2 (u2 dt 84 ((2 * (dt 79 11)).toNat) p1) 84 (((2 * (dt 79 11)) + 1).toNat) p2) 79 2 = (u2 dt 84 ((2 * (dt 79 11)).toNat) p1) 79 2 := rfl
  have w19 : (u2 (u2 dt 84 ((2 * (dt 79 11)).toNat) p1) 84 (((2 * (dt 79 11)) + 1).toNat) p2) 79 9 = (u2 dt 84 ((2 * (dt 79 11)).toNat) p1) 79 9 := rfl
  have w20 : (u2 (u2 dt 84 ((2 * (dt 79 11)).toNat) p1) 84 (((2 * (dt 79 11)) + 1).toNat) p2) 79 10 = (u2 dt 84 ((2 * (dt 79 11)).toNat) p1) 79 10 := rfl
  have w21 : (u2 (u2 dt 84 ((2 * (dt 79 11)).toNat) p1) 84 (((2 * (dt 79 11)) + 1).toNat) p2) 79 11 = (u2 dt 84 ((2 * (dt 79 11)).toNat) p1) 79 11 := rfl
  have w22 : (u2 (u2 dt 84 ((2 * (dt 79 11)).toNat) p1) 84 (((2 * (dt 79 11)) + 1).toNat) p2) 79 12 = (u2 dt 84 ((2 * (dt 79 11)).toNat) p1) 79 12 := rfl
  have w23 : (u2 (u2 dt 84 ((2 * (dt 79 11)).toNat) p1) 84 (((2 * (dt 79 11)) + 1).toNat) p2) 79 13 = (u2 dt 84 ((2 * (dt 79 11)).toNat) p1) 79 13 := rfl
  have w24 : (u2 (u2 dt 84 ((2 * (dt 79 11)).toNat) p1) 84 (((2 * (dt 79 11)) + 1).toNat) p2) 79 14 = (u2 dt 84 ((2 * (dt 79 11)).toNat) p1) 79 14 := rfl
  have w25 : (u2 (u2 dt 84 ((2 * (dt 79 11)).toNat) p1) 84 (((2 * (dt 79 11)) + 1).toNat) p2) 79 15 = (u2 dt 84 ((2 * (dt 79 11)).toNat) p1) 79 15 := rfl
  have w26 : (u2 (u2 dt 84 ((2 * (dt 79 11)).toNat) p1) 84 (((2 * (dt 79 11)) + 1).toNat) p2) 79 16 = (u2 dt 84 ((2 * (dt 79 11)).toNat) p1) 79 16 := rfl
  have w27 : (u2 (u2 dt 84 ((2 * (dt 79 11)).toNat) p1) 84 (((2 * (dt 79 11)) + 1).toNat) p2) 79 17 = (u2 dt 84 ((2 * (dt 79 11)).toNat) p1) 79 17 := rfl
  have w28 : (u2 (u2 dt 84 ((2 * (dt 79 11)).toNat) p1) 84 (((2 * (dt 79 11)) + 1).toNat) p2) 79 18 = (u2 dt 84 ((2 * (dt 79 11)).toNat) p1) 79 18 := rfl
  have w29 : (u2 (u2 dt 84 ((2 * (dt 79 11)).toNat) p1) 84 (((2 * (dt 79 11)) + 1).toNat) p2) 79 20 = (u2 dt 84 ((2 * (dt 79 11)).toNat) p1) 79 20 := rfl
  refine go_smpq PM163 (L' := [some (.inr (.inr (some 79))), some (.inl p1), some (.inl p2)]) (st' := []) (w' := (SH, (u2 (u2 dt 84 ((2 * (dt 79 11)).toNat) p1) 84 (((2 * (dt 79 11)) + 1).toNat) p2))) rfl rfl (s_iast (n := 1020) rfl ⟨by omega, by omega⟩ (by first | exact bnd h_p2 (by decide) (by decide) | exact ⟨by omega, by omega⟩)) ?_
  refine go_toq PM163 (k := 5) (pc' := 33) (L' := [some (.inr (.inr (some 79))), some (.inl p1), some (.inl p2)]) (st' := [.inl ((dt 79 11) + 1), .inr (.inr (some 79))]) (w' := (SH, (u2 (u2 dt 84 ((2 * (dt 79 11)).toNat) p1) 84 (((2 * (dt 79 11)) + 1).toNat) p2))) rfl ?_
  have hI30 : InvC (u2 (u2 (u2 dt 84 ((2 * (dt 79 11)).toNat) p1) 84 (((2 * (dt 79 11)) + 1).toNat) p2) 79 11 ((dt 79 11) + 1)) := InvC_u2 hI16 (lo := 0) (hi := 510) rfl rfl rfl (by omega) (by omega)
  have hF31 : Fr [79, 84] dt (u2 (u2 (u2 dt 84 ((2 * (dt 79 11)).toNat) p1) 84 (((2 * (dt 79 11)) + 1).toNat) p2) 79 11 ((dt 79 11) + 1)) := Fr_u2 hF17 (by decide)
  have w32 : (u2 (u2 (u2 dt 84 ((2 * (dt 79 11)).toNat) p1) 84 (((2 * (dt 79 11)) + 1).toNat) p2) 79 11 ((dt 79 11) + 1)) 79 2 = (u2 (u2 dt 84 ((2 * (dt 79 11)).toNat) p1) 84 (((2 * (dt 79 11)) + 1).toNat) p2) 79 2 := rfl
  have w33 : (u2 (u2 (u2 dt 84 ((2 * (dt 79 11)).toNat) p1) 84 (((2 * (dt 79 11)) + 1).toNat) p2) 79 11 ((dt 79 11) + 1)) 79 9 = (u2 (u2 dt 84 ((2 * (dt 79 11)).toNat) p1) 84 (((2 * (dt 79 11)) + 1).toNat) p2) 79 9 := rfl
  have w34 : (u2 (u2 (u2 dt 84 ((2 * (dt 79 11)).toNat) p1) 84 (((2 * (dt 79 11)) + 1).toNat) p2) 79 11 ((dt 79 11) + 1)) 79 10 = (u2 (u2 dt 84 ((2 * (dt 79 11)).toNat) p1) 84 (((2 * (dt 79 11)) + 1).toNat) p2) 79 10 := rfl
  have w35 : (u2 (u2 (u2 dt 84 ((2 * (dt 79 11)).toNat) p1) 84 (((2 * (dt 79 11)) + 1).toNat) p2) 79 11 ((dt 79 11) + 1)) 79 11 = (dt 79 11) + 1 := rfl
  have w36 : (u2 (u2 (u2 dt 84 ((2 * (dt 79 11)).toNat) p1) 84 (((2 * (dt 79 11)) + 1).toNat) p2) 79 11 ((dt 79 11) + 1)) 79 12 = (u2 (u2 dt 84 ((2 * (dt 79 11)).toNat) p1) 84 (((2 * (dt 79 11)) + 1).toNat) p2) 79 12 := rfl
  have w37 : (u2 (u2 (u2 dt 84 ((2 * (dt 79 11)).toNat) p1) 84 (((2 * (dt 79 11)) + 1).toNat) p2) 79 11 ((dt 79 11) + 1)) 79 13 = (u2 (u2 dt 84 ((2 * (dt 79 11)).toNat) p1) 84 (((2 * (dt 79 11)) + 1).toNat) p2) 79 13 := rfl
  have w38 : (u2 (u2 (u2 dt 84 ((2 * (dt 79 11)).toNat) p1) 84 (((2 * (dt 79 11)) + 1).toNat) p2) 79 11 ((dt 79 11) + 1)) 79 14 = (u2 (u2 dt 84 ((2 * (dt 79 11)).toNat) p1) 84 (((2 * (dt 79 11)) + 1).toNat) p2) 79 14 := rfl
  have w39 : (u2 (u2 (u2 dt 84 ((2 * (dt 79 11)).toNat) p1) 84 (((2 * (dt 79 11)) + 1).toNat) p2) 79 11 ((dt 79 11) + 1)) 79 15 = (u2 (u2 dt 84 ((2 * (dt 79 11)).toNat) p1) 84 (((2 * (dt 79 11)) + 1).toNat) p2) 79 15 := rfl
  have w40 : (u2 (u2 (u2 dt 84 ((2 * (dt 79 11)).toNat) p1) 84 (((2 * (dt 79 11)) + 1).toNat) p2) 79 11 ((dt 79 11) + 1)) 79 16 = (u2 (u2 dt 84 ((2 * (dt 79 11)).toNat) p1) 84 (((2 * (dt 79 11)) + 1).toNat) p2) 79 16 := rfl
  have w41 : (u2 (u2 (u2 dt 84 ((2 * (dt 79 11)).toNat) p1) 84 (((2 * (dt 79 11)) + 1).toNat) p2) 79 11 ((dt 79 11) + 1)) 79 17 = (u2 (u2 dt 84 ((2 * (dt 79 11)).toNat) p1) 84 (((2 * (dt 79 11)) + 1).toNat) p2) 79 17 := rfl
  have w42 : (u2 (u2 (u2 dt 84 ((2 * (dt 79 11)).toNat) p1) 84 (((2 * (dt 79 11)) + 1).toNat) p2) 79 11 ((dt 79 11) + 1)) 79 18 = (u2 (u2 dt 84 ((2 * (dt 79 11)).toNat) p1) 84 (((2 * (dt 79 11)) + 1).toNat) p2) 79 18 := rfl
  have w43 : (u2 (u2 (u2 dt 84 ((2 * (dt 79 11)).toNat) p1) 84 (((2 * (dt 79 11)) + 1).toNat) p2) 79 11 ((dt 79 11) + 1)) 79 20 = (u2 (u2 dt 84 ((2 * (dt 79 11)).toNat) p1) 84 (((2 * (dt 79 11)) + 1).toNat) p2) 79 20 := rfl
  refine go_smpq PM163 (L' := [some (.inr (.inr (some 79))), some (.inl p1), some (.inl p2)]) (st' := []) (w' := (SH, (u2 (u2 (u2 dt 84 ((2 * (dt 79 11)).toNat) p1) 84 (((2 * (dt 79 11)) + 1).toNat) p2) 79 11 ((dt 79 11) + 1)))) rfl rfl (s_pf rfl rfl rfl rfl (by first | exact bndp r1 (by decide) (by decide) | exact ⟨by omega, by omega⟩)) ?_
  refine go_retq PM163 (k := 0) (r := none) (w1 := (SH, (u2 (u2 (u2 dt 84 ((2 * (dt 79 11)).toNat) p1) 84 (((2 * (dt 79 11)) + 1).toNat) p2) 79 11 ((dt 79 11) + 1)))) rfl ?_
  exact ⟨(u2 (u2 (u2 dt 84 ((2 * (dt 79 11)).toNat) p1) 84 (((2 * (dt 79 11)) + 1).toNat) p2) 79 11 ((dt 79 11) + 1)), rfl, hI30, hF31, ⟨rfl, ⟨by first | exact True.intro | rfl | omega | trivial, by first | exact True.intro | rfl | omega | trivial, by first | exact True.intro | rfl | omega | trivial, by first | exact True.intro | rfl | omega | trivial, by first | exact True.intro | rfl | omega | trivial, by first | exact True.intro | rfl | omega | trivial, by first | exact True.intro | rfl | omega | trivial, by first | exact True.intro | rfl | omega | trivial, by first | exact True.intro | rfl | omega | trivial, by first | exact True.intro | rfl | omega | trivial, by first | exact True.intro | rfl | omega | trivial⟩⟩⟩
set_option maxHeartbeats 1500000 in
set_option maxRecDepth 20000 in
theorem sp_X6_unit_g (L : Nat) (xs : Nat → Int32) (sio : Option Nat) (d : Nat) (dt : Nat → Nat → Int) (hI : InvC dt) (b : Nat → Int) (n t i : Nat) (hbb : mB (dt 85) (dt 79 12) = b) (hnn : dt 79 12 = (n : Int)) (hz : KZ (KF 1 b n) t) (ht : t ≤ 500) (hc : CUR 1 b n dt i) (hi : i ≤ t) (hn5 : n ≤ 500)  (h_p0 : dt 79 9 = 1) (h_p1 : dt 79 11 ≤ dt 79 15) : GO (am_XX L xs sio) (d + 7) 167 0 [some (.inr (.inr (some 79))), none] [] (SH, dt) (fun r w2 => ∃ dt2 : Nat → Nat → Int, w2 = (SH, dt2) ∧ InvC dt2 ∧ Fr [79, 84] dt dt2 ∧ ((r = some (.inl 0) ∧ (RSX 1 b n i dt2 0 ((gU (KF 1 b n)) i)) ∧ (dt2 79 2 = dt 79 2) ∧ (dt2 79 9 = dt 79 9) ∧ (dt2 79 10 = dt 79 10) ∧ (dt2 79 12 = dt 79 12)) ∨ (r = some (.inl 1) ∧ (RSX 1 b n i dt2 1 ((gU (KF 1 b n)) i)) ∧ (dt 79 15 + dt2 79 11 ≤ dt2 79 15 + dt 79 11) ∧ (dt 79 11 + 1 ≤ dt2 79 11) ∧ (dt2 79 15 ≤ 500) ∧ (dt2 79 2 = dt 79 2) ∧ (dt2 79 9 = dt 79 9) ∧ (dt2 79 10 = dt 79 10) ∧ (dt2 79 12 = dt 79 12) ∧ (dt2 79 17 = dt 79 17) ∧ (dt2 79 20 = dt 79 20)))) := by
  have hF : Fr [79, 84] dt dt := Fr_refl
  have r1 : 0 ≤ dt 79 15 ∧ dt 79 15 ≤ 500 := InvC_get hI 79 15 rfl rfl
  have r2 : 0 ≤ dt 79 11 ∧ dt 79 11 ≤ 510 := InvC_get hI 79 11 rfl rfl
  have r3 : 0 ≤ dt 79 10 ∧ dt 79 10 ≤ 24 := InvC_get hI 79 10 rfl rfl
  have cr0 := CUR_R hc (.inr rfl)
  have cb0 := CUR_b hc
  have cv0 := CUR_v hc
  have ck0 := KZ_lt (i := i) hz
  have c10 := hc.1
  have r4 : (-2147483648) ≤ dt 79 14 ∧ dt 79 14 ≤ 2147483647 := InvC_get hI 79 14 rfl rfl
  refine go_toq PM167 (k := 4) (pc' := 8) (L' := [some (.inr (.inr (some 79))), none]) (st' := [.inl 46, .inl 41, .inl (dt 79 14)]) (w' := (SH, dt)) rfl ?_
  refine go_callq PM167 PM146 (Q' := _) rfl rfl rfl rfl (sp_X6_isIn L xs sio (d + 6) dt hI  (dt 79 14) (by first | exact bnd r4 (by decide) (by decide) | exact ⟨by omega, by omega⟩) 41 ⟨by decide, by decide⟩ 46 ⟨by decide, by decide⟩ ) ?_
  rintro _ _ ⟨rfl, h5⟩
  refine ⟨rfl, ?_⟩
  rcases h5 with ⟨rfl, h5⟩ | ⟨rfl, h5⟩
  · skip
    refine go_ifq PM167 (k := 4) (p1 := 30) (p2 := 20) (L' := [some (.inr (.inr (some 79))), some (.inl 1)]) (st' := []) (w' := (SH, dt)) rfl (c_eq (a := dt 79 14) (b := 2) (by first | exact bnd r4 (by decide) (by decide) | exact ⟨by omega, by omega⟩) ⟨by decide, by decide⟩) (fun c6 => ?_) (fun c6 => ?_)
    · exfalso; omega
    · skip
      have r7 : 0 ≤ dt 79 16 ∧ dt 79 16 ≤ 9999 := InvC_get hI 79 16 rfl rfl
      refine go_toq PM167 (k := 12) (pc' := 50) (L' := [some (.inr (.inr (some 79))), some (.inl 1)]) (st' := [.inl (dt 79 16), .inl ((dt 79 14) - 40), .inr (.inr (some 79))]) (w' := (SH, dt)) rfl ?_
      refine go_callq PM167 PM163 (Q' := _) rfl rfl rfl rfl (sp_X6_lay_g L xs sio (d + 6) dt hI  ((dt 79 14) - 40) ⟨by omega, by omega⟩ (dt 79 16) (by first | exact bnd r7 (by decide) (by decide) | exact ⟨by omega, by omega⟩) (by first | exact True.intro | rfl | omega | trivial)) ?_
      rintro _ _ ⟨dt9, rfl, hI10, hF11, h8⟩
      refine ⟨rfl, ?_⟩
      have hF12 : Fr [79, 84] dt dt9 := Fr_tr hF hF11 (by decide)
      rcases h8 with ⟨rfl, h8⟩
      obtain ⟨h8_0, h8_1, h8_2, h8_3, h8_4, h8_5, h8_6, h8_7, h8_8, h8_9, h8_10⟩ := h8
      have hc13 : CUR 1 b n dt9 i := CUR_sm hc (by omega) (by omega) (by omega) (by omega)
      refine go_toq PM167 (k := 1) (pc' := 54) (L' := [some (.inr (.inr (some 79))), some (.inl 1)]) (st' := [.inr (.inr (some 79))]) (w' := (SH, dt9)) rfl ?_
      refine go_callq PM167 PM159 (Q' := _) rfl rfl rfl rfl (sp_X6_next0_p1 L xs sio (d + 0) dt9 hI10   (by first | exact True.intro | rfl | omega | trivial) (by first | exact True.intro | rfl | omega | trivial)) ?_
      rintro _ _ ⟨dt15, rfl, hI16, hF17, h14⟩
      refine ⟨rfl, ?_⟩
      have hF18 : Fr [79, 84] dt dt15 := Fr_tr hF12 hF17 (by decide)
      rcases h14 with ⟨rfl, h14⟩
      obtain ⟨h14_0, h14_1, h14_2, h14_3, h14_4, h14_5, h14_6, h14_7, h14_8⟩ := h14
      have hq19 := h14_0
      rw [show dt9 85 = dt 85 from funext (hF12 85 (by decide)), show dt9 79 12 = dt 79 12 by omega, hbb, show (dt 79 12).toNat = n by omega] at hq19
      have hc20 : CUR 1 b n dt15 (i + 1) := CUR_n hc13 hq19
      have hi21 : i + 1 ≤ t := by omega
      have av22 : dt9 79 15 + 1 ≤ dt9 79 13 := by omega
      have hp23 : (gU (KF 1 b n)) i = gOk (i + 1) := (rfl : (gU (KF 1 b n)) i = (gU (KF 1 b n)) i).trans (by show gU _ _ = _; unfold gU; rw [if_pos (by omega)]; rfl)
      clear cr0 cb0 cv0 ck0
      have cr24 := CUR_R hc20 (.inr rfl)
      have cb25 := CUR_b hc20
      have cv26 := CUR_v hc20
      have ck27 := KZ_lt (i := (i + 1)) hz
      have c128 := (hc20).1
      have ci29 := hi21
      refine go_retq PM167 (k := 1) (r := some (.inl 1)) (w1 := (SH, dt15)) rfl ?_
      exact ⟨dt15, rfl, hI16, hF18, (Or.inr ⟨rfl, ⟨by exact RSX_ok (hp23.trans (by rfl)) hc20, by first | exact True.intro | rfl | omega | trivial, by first | exact True.intro | rfl | omega | trivial, by exact (InvC_get (by assumption) 79 15 rfl rfl).2, by first | exact True.intro | rfl | omega | trivial, by first | exact True.intro | rfl | omega | trivial, by first | exact True.intro | rfl | omega | trivial, by first | exact True.intro | rfl | omega | trivial, by first | exact True.intro | rfl | omega | trivial, by first | exact True.intro | rfl | omega | trivial⟩⟩)⟩
  · skip
    refine go_ifq PM167 (k := 4) (p1 := 30) (p2 := 20) (L' := [some (.inr (.inr (some 79))), some (.inl 0)]) (st' := []) (w' := (SH, dt)) rfl (c_eq (a := dt 79 14) (b := 2) (by first | exact bnd r4 (by decide) (by decide) | exact ⟨by omega, by omega⟩) ⟨by decide, by decide⟩) (fun c30 => ?_) (fun c30 => ?_)
    · skip
      have r31 : 0 ≤ dt 79 16 ∧ dt 79 16 ≤ 9999 := InvC_get hI 79 16 rfl rfl
      refine go_toq PM167 (k := 6) (pc' := 50) (L' := [some (.inr (.inr (some 79))), some (.inl 0)]) (st' := [.inl (dt 79 16), .inl 0, .inr (.inr (some 79))]) (w' := (SH, dt)) rfl ?_
      refine go_callq PM167 PM163 (Q' := _) rfl rfl rfl rfl (sp_X6_lay_g L xs sio (d + 6) dt hI  0 ⟨by decide, by decide⟩ (dt 79 16) (by first | exact bnd r31 (by decide) (by decide) | exact ⟨by omega, by omega⟩) (by first | exact True.intro | rfl | omega | trivial)) ?_
      rintro _ _ ⟨dt33, rfl, hI34, hF35, h32⟩
      refine ⟨rfl, ?_⟩
      have hF36 : Fr [79, 84] dt dt33 := Fr_tr hF hF35 (by decide)
      rcases h32 with ⟨rfl, h32⟩
      obtain ⟨h32_0, h32_1, h32_2, h32_3, h32_4, h32_5, h32_6, h32_7, h32_8, h32_9, h32_10⟩ := h32
      have hc37 : CUR 1 b n dt33 i := CUR_sm hc (by omega) (by omega) (by omega) (by omega)
      refine go_toq PM167 (k := 1) (pc' := 54) (L' := [some (.inr (.inr (some 79))), some (.inl 0)]) (st' := [.inr (.inr (some 79))]) (w' := (SH, dt33)) rfl ?_
      refine go_callq PM167 PM159 (Q' := _) rfl rfl rfl rfl (sp_X6_next0_p1 L xs sio (d + 0) dt33 hI34   (by first | exact True.intro | rfl | omega | trivial) (by first | exact True.intro | rfl | omega | trivial)) ?_
      rintro _ _ ⟨dt39, rfl, hI40, hF41, h38⟩
      refine ⟨rfl, ?_⟩
      have hF42 : Fr [79, 84] dt dt39 := Fr_tr hF36 hF41 (by decide)
      rcases h38 with ⟨rfl, h38⟩
      obtain ⟨h38_0, h38_1, h38_2, h38_3, h38_4, h38_5, h38_6, h38_7, h38_8⟩ := h38
      have hq43 := h38_0
      rw [show dt33 85 = dt 85 from funext (hF36 85 (by decide)), show dt33 79 12 = dt 79 12 by omega, hbb, show (dt 79 12).toNat = n by omega] at hq43
      have hc44 : CUR 1 b n dt39 (i + 1) := CUR_n hc37 hq43
      have hi45 : i + 1 ≤ t := by omega
      have av46 : dt33 79 15 + 1 ≤ dt33 79 13 := by omega
      have hp47 : (gU (KF 1 b n)) i = gOk (i + 1) := (rfl : (gU (KF 1 b n)) i = (gU (KF 1 b n)) i).trans (by show gU _ _ = _; unfold gU; rw [if_pos (by omega)]; rfl)
      clear cr0 cb0 cv0 ck0
      have cr48 := CUR_R hc44 (.inr rfl)
      have cb49 := CUR_b hc44
      have cv50 := CUR_v hc44
      have ck51 := KZ_lt (i := (i + 1)) hz
      have c152 := (hc44).1
      have ci53 := hi45
      refine go_retq PM167 (k := 1) (r := some (.inl 1)) (w1 := (SH, dt39)) rfl ?_
      exact ⟨dt39, rfl, hI40, hF42, (Or.inr ⟨rfl, ⟨by exact RSX_ok (hp47.trans (by rfl)) hc44, by first | exact True.intro | rfl | omega | trivial, by first | exact True.intro | rfl | omega | trivial, by exact (InvC_get (by assumption) 79 15 rfl rfl).2, by first | exact True.intro | rfl | omega | trivial, by first | exact True.intro | rfl | omega | trivial, by first | exact True.intro | rfl | omega | trivial, by first | exact True.intro | rfl | omega | trivial, by first | exact True.intro | rfl | omega | trivial, by first | exact True.intro | rfl | omega | trivial⟩⟩)⟩
    · skip
      refine go_toq PM167 (k := 4) (pc' := 26) (L' := [some (.inr (.inr (some 79))), some (.inl 0)]) (st' := [.inl 1, .inr (.inr (some 79))]) (w' := (SH, dt)) rfl ?_
      refine go_callq PM167 PM160 (Q' := _) rfl rfl rfl rfl (sp_X6_bad_g L xs sio (d + 6) dt hI  1 ⟨by decide, by decide⟩ ) ?_
      rintro _ _ ⟨dt55, rfl, hI56, hF57, h54⟩
      refine ⟨rfl, ?_⟩
      have hF58 : Fr [79, 84] dt dt55 := Fr_tr hF hF57 (by decide)
      rcases h54 with ⟨rfl, h54⟩
      obtain ⟨h54_0, h54_1, h54_2, h54_3, h54_4, h54_5, h54_6, h54_7, h54_8, h54_9, h54_10, h54_11⟩ := h54
      have hc59 : CUR 1 b n dt55 i := CUR_sm hc (by omega) (by omega) (by omega) (by omega)
      refine go_retq PM167 (k := 0) (r := some (.inl 0)) (w1 := (SH, dt55)) rfl ?_
      exact ⟨dt55, rfl, hI56, hF58, (Or.inl ⟨rfl, ⟨by first | exact RSX_f hI hI (by omega) (by omega) | exact RSX_no (k := 1) (j := i) ((rfl : (gU (KF 1 b n)) i = (gU (KF 1 b n)) i).trans (by show gU _ _ = _; unfold gU; rw [if_neg (by omega)])) (by decide) (by omega) (by show _ = ((TP b n i : Nat) : Int); omega), by first | exact True.intro | rfl | omega | trivial, by first | exact True.intro | rfl | omega | trivial, by first | exact True.intro | rfl | omega | trivial, by first | exact True.intro | rfl | omega | trivial⟩⟩)⟩
