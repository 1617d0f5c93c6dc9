set_option maxRecDepth 20000 in
theorem sp_X6_lay_g (L : Nat) (xs : Nat → Int32) (sio : Option Nat) (d : Nat) (dt : Nat → Nat → Int) (hI : InvC dt)  (p1 : Int) (h_p1 : 0 ≤ p1 ∧ p1 ≤ 16) (p2 : Int) (h_p2 : (-2147483648) ≤ p2 ∧ p2 ≤ 2147483647) (h_p0 : dt 79 11 ≤ 509) : GO (am_XX L xs sio) (d) 163 0 [some (.inr (.inr (some 79))), some (.inl p1), some (.inl p2)] [] (SH, dt) (fun r w2 => ∃ dt2 : Nat → Nat → Int, w2 = (SH, dt2) ∧ InvC dt2 ∧ Fr [79, 84] dt dt2 ∧ ((r = none ∧ (dt2 79 11 = dt 79 11 + 1) ∧ (dt2 79 2 = dt 79 2) ∧ (dt2 79 9 = dt 79 9) ∧ (dt2 79 10 = dt 79 10) ∧ (dt2 79 12 = dt 79 12) ∧ (dt2 79 13 = dt 79 13) ∧ (dt2 79 14 = dt 79 14) ∧ (dt2 79 15 = dt 79 15) ∧ (dt2 79 16 = dt 79 16) ∧ (dt2 79 17 = dt 79 17) ∧ (dt2 79 20 = dt 79 20)))) := by
  have hF : Fr [79, 84] dt dt := Fr_refl
  have r1 : 0 ≤ dt 79 11 ∧ dt 79 11 ≤ 510 := InvC_get hI 79 11 rfl rfl
  refine go_toq PM163 (k := 7) (pc' := 11) (L' := [some (.inr (.inr (some 79))), some (.inl p1), some (.inl p2)]) (st' := [.inl p1, .inl (2 * (dt 79 11)), .inr (.inr (some 84))]) (w' := (SH, dt)) rfl ?_
  have hI2 : InvC (u2 dt 84 ((2 * (dt 79 11)).toNat) p1) := InvC_u2 hI (lo := -2147483648) (hi := 2147483647) rfl rfl rfl (by first | exact bnd1 h_p1 (by decide) | omega) (by first | exact bnd2 h_p1 (by decide) | omega)
  have hF3 : Fr [79, 84] dt (u2 dt 84 ((2 * (dt 79 11)).toNat) p1) := Fr_u2 hF (by decide)
  have w4 : (u2 dt 84 ((2 * (dt 79 11)).toNat) p1) 79 2 = dt 79 2 := rfl
  have w5 : (u2 dt 84 ((2 * (dt 79 11)).toNat) p1) 79 9 = dt 79 9 := rfl
  have w6 : (u2 dt 84 ((2 * (dt 79 11)).toNat) p1) 79 10 = dt 79 10 := rfl
  have w7 : (u2 dt 84 ((2 * (dt 79 11)).toNat) p1) 79 11 = dt 79 11 := rfl
  have w8 : (u2 dt 84 ((2 * (dt 79 11)).toNat) p1) 79 12 = dt 79 12 := rfl
  have w9 : (u2 dt 84 ((2 * (dt 79 11)).toNat) p1) 79 13 = dt 79 13 := rfl
  have w10 : (u2 dt 84 ((2 * (dt 79 11)).toNat) p1) 79 14 = dt 79 14 := rfl
  have w11 : (u2 dt 84 ((2 * (dt 79 11)).toNat) p1) 79 15 = dt 79 15 := rfl
  have w12 : (u2 dt 84 ((2 * (dt 79 11)).toNat) p1) 79 16 = dt 79 16 := rfl
  have w13 : (u2 dt 84 ((2 * (dt 79 11)).toNat) p1) 79 17 = dt 79 17 := rfl
  have w14 : (u2 dt 84 ((2 * (dt 79 11)).toNat) p1) 79 18 = dt 79 18 := rfl
  have w15 : (u2 dt 84 ((2 * (dt 79 11)).toNat) p1) 79 20 = dt 79 20 := rfl
  refine go_smpq PM163 (L' := [some (.inr (.inr (some 79))), some (.inl p1), some (.inl p2)]) (st' := []) (w' := (SH, (u2 dt 84 ((2 * (dt 79 11)).toNat) p1))) rfl rfl (s_iast (n := 1020) rfl ⟨by omega, by omega⟩ (by first | exact bnd h_p1 (by decide) (by decide) | exact ⟨by omega, by omega⟩)) ?_
  refine go_toq PM163 (k := 9) (pc' := 25) (L' := [some (.inr (.inr (some 79))), some (.inl p1), some (.inl p2)]) (st' := [.inl p2, .inl ((2 * (dt 79 11)) + 1), .inr (.inr (some 84))]) (w' := (SH, (u2 dt 84 ((2 * (dt 79 11)).toNat) p1))) rfl ?_
  have hI16 : InvC (u2 (u2 dt 84 ((2 * (dt 79 11)).toNat) p1) 84 (((2 * (dt 79 11)) + 1).toNat) p2) := InvC_u2 hI2 (lo := -2147483648) (hi := 2147483647) rfl rfl rfl (by first | exact bnd1 h_p2 (by decide) | omega) (by first | exact bnd2 h_p2 (by decide) | omega)
  have hF17 : Fr [79, 84] dt (u2 (u2 dt 84 ((2 * (dt 79 11)).toNat) p1) 84 (((2 * (dt 79 11)) + 1).toNat) p2) := Fr_u2 hF3 (by decide)
  have w18 : (u2 (u2 dt 84 ((2 * (dt 79 11)).toNat) p1) 84 (((2 * (dt 79 11)) + 1).toNat) p2) 79 2 = (u2 dt 84 ((2 * (dt 79 11)).toNat) p1) 79 2 := rfl
  have w19 : (u2 (u2 dt 84 ((2 * (dt 79 11)).toNat) p1) 84 (((2 * (dt 79 11)) + 1).toNat) p2) 79 9 = (u2 dt 84 ((2 * (dt 79 11)).toNat) p1) 79 9 := rfl
  have w20 : (u2 (u2 dt 84 ((2 * (dt 79 11)).toNat) p1) 84 (((2 * (dt 79 11)) + 1).toNat) p2) 79 10 = (u2 dt 84 ((2 * (dt 79 11)).toNat) p1) 79 10 := rfl
  have w21 : (u2 (u2 dt 84 ((2 * (dt 79 11)).toNat) p1) 84 (((2 * (dt 79 11)) + 1).toNat) p2) 79 11 = (u2 dt 84 ((2 * (dt 79 11)).toNat) p1) 79 11 := rfl
  have w22 : (u2 (u2 dt 84 ((2 * (dt 79 11)).toNat) p1) 84 (((2 * (dt 79 11)) + 1).toNat) p2) 79 12 = (u2 dt 84 ((2 * (dt 79 11)).toNat) p1) 79 12 := rfl
  have w23 : (u2 (u2 dt 84 ((2 * (dt 79 11)).toNat) p1) 84 (((2 * (dt 79 11)) + 1).toNat) p2) 79 13 = (u2 dt 84 ((2 * (dt 79 11)).toNat) p1) 79 13 := rfl
  have w24 : (u2 (u2 dt 84 ((2 * (dt 79 11)).toNat) p1) 84 (((2 * (dt 79 11)) + 1).toNat) p2) 79 14 = (u2 dt 84 ((2 * (dt 79 11)).toNat) p1) 79 14 := rfl
  have w25 : (u2 (u2 dt 84 ((2 * (dt 79 11)).toNat) p1) 84 (((2 * (dt 79 11)) + 1).toNat) p2) 79 15 = (u2 dt 84 ((2 * (dt 79 11)).toNat) p1) 79 15 := rfl
  have w26 : (u2 (u2 dt 84 ((2 * (dt 79 11)).toNat) p1) 84 (((2 * (dt 79 11)) + 1).toNat) p2) 79 16 = (u2 dt 84 ((2 * (dt 79 11)).toNat) p1) 79 16 := rfl
  have w27 : (u2 (u2 dt 84 ((2 * (dt 79 11)).toNat) p1) 84 (((2 * (dt 79 11)) + 1).toNat) p2) 79 17 = (u2 dt 84 ((2 * (dt 79 11)).toNat) p1) 79 17 := rfl
  have w28 : (u2 (u2 dt 84 ((2 * (dt 79 11)).toNat) p1) 84 (((2 * (dt 79 11)) + 1).toNat) p2) 79 18 = (u2 dt 84 ((2 * (dt 79 11)).toNat) p1) 79 18 := rfl
  have w29 : (u2 (u2 dt 84 ((2 * (dt 79 11)).toNat) p1) 84 (((2 * (dt 79 11)) + 1).toNat) p2) 79 20 = (u2 dt 84 ((2 * (dt 79 11)).toNat) p1) 79 20 := rfl
  refine go_smpq PM163 (L' := [some (.inr (.inr (some 79))), some (.inl p1), some (.inl p2)]) (st' := []) (w' := (SH, (u2 (u2 dt 84 ((2 * (dt 79 11)).toNat) p1) 84 (((2 * (dt 79 11)) + 1).toNat) p2))) rfl rfl (s_iast (n := 1020) rfl ⟨by omega, by omega⟩ (by first | exact bnd h_p2 (by decide) (by decide) | exact ⟨by omega, by omega⟩)) ?_
  refine go_toq PM163 (k := 5) (pc' := 33) (L' := [some (.inr (.inr (some 79))), some (.inl p1), some (.inl p2)]) (st' := [.inl ((dt 79 11) + 1), .inr (.inr (some 79))]) (w' := (SH, (u2 (u2 dt 84 ((2 * (dt 79 11)).toNat) p1) 84 (((2 * (dt 79 11)) + 1).toNat) p2))) rfl ?_
  have hI30 : InvC (u2 (u2 (u2 dt 84 ((2 * (dt 79 11)).toNat) p1) 84 (((2 * (dt 79 11)) + 1).toNat) p2) 79 11 ((dt 79 11) + 1)) := InvC_u2 hI16 (lo := 0) (hi := 510) rfl rfl rfl (by omega) (by omega)
  have hF31 : Fr [79, 84] dt (u2 (u2 (u2 dt 84 ((2 * (dt 79 11)).toNat) p1) 84 (((2 * (dt 79 11)) + 1).toNat) p2) 79 11 ((dt 79 11) + 1)) := Fr_u2 hF17 (by decide)
  have w32 : (u2 (u2 (u2 dt 84 ((2 * (dt 79 11)).toNat) p1) 84 (((2 * (dt 79 11)) + 1).toNat) p2) 79 11 ((dt 79 11) + 1)) 79 2 = (u2 (u2 dt 84 ((2 * (dt 79 11)).toNat) p1) 84 (((2 * (dt 79 11)) + 1).toNat) p2) 79 2 := rfl
  have w33 : (u2 (u2 (u2 dt 84 ((2 * (dt 79 11)).toNat) p1) 84 (((2 * (dt 79 11)) + 1).toNat) p2) 79 11 ((dt 79 11) + 1)) 79 9 = (u2 (u2 dt 84 ((2 * (dt 79 11)).toNat) p1) 84 (((2 * (dt 79 11)) + 1).toNat) p2) 79 9 := rfl
  have w34 : (u2 (u2 (u2 dt 84 ((2 * (dt 79 11)).toNat) p1) 84 (((2 * (dt 79 11)) + 1).toNat) p2) 79 11 ((dt 79 11) + 1)) 79 10 = (u2 (u2 dt 84 ((2 * (dt 79 11)).toNat) p1) 84 (((2 * (dt 79 11)) + 1).toNat) p2) 79 10 := rfl
  have w35 : (u2 (u2 (u2 dt 84 ((2 * (dt 79 11)).toNat) p1) 84 (((2 * (dt 79 11)) + 1).toNat) p2) 79 11 ((dt 79 11) + 1)) 79 11 = (dt 79 11) + 1 := rfl
  have w36 : (u2 (u2 (u2 dt 84 ((2 * (dt 79 11)).toNat) p1) 84 (((2 * (dt 79 11)) + 1).toNat) p2) 79 11 ((dt 79 11) + 1)) 79 12 = (u2 (u2 dt 84 ((2 * (dt 79 11)).toNat) p1) 84 (((2 * (dt 79 11)) + 1).toNat) p2) 79 12 := rfl
  have w37 : (u2 (u2 (u2 dt 84 ((2 * (dt 79 11)).toNat) p1) 84 (((2 * (dt 79 11)) + 1).toNat) p2) 79 11 ((dt 79 11) + 1)) 79 13 = (u2 (u2 dt 84 ((2 * (dt 79 11)).toNat) p1) 84 (((2 * (dt 79 11)) + 1).toNat) p2) 79 13 := rfl
  have w38 : (u2 (u2 (u2 dt 84 ((2 * (dt 79 11)).toNat) p1) 84 (((2 * (dt 79 11)) + 1).toNat) p2) 79 11 ((dt 79 11) + 1)) 79 14 = (u2 (u2 dt 84 ((2 * (dt 79 11)).toNat) p1) 84 (((2 * (dt 79 11)) + 1).toNat) p2) 79 14 := rfl
  have w39 : (u2 (u2 (u2 dt 84 ((2 * (dt 79 11)).toNat) p1) 84 (((2 * (dt 79 11)) + 1).toNat) p2) 79 11 ((dt 79 11) + 1)) 79 15 = (u2 (u2 dt 84 ((2 * (dt 79 11)).toNat) p1) 84 (((2 * (dt 79 11)) + 1).toNat) p2) 79 15 := rfl
  have w40 : (u2 (u2 (u2 dt 84 ((2 * (dt 79 11)).toNat) p1) 84 (((2 * (dt 79 11)) + 1).toNat) p2) 79 11 ((dt 79 11) + 1)) 79 16 = (u2 (u2 dt 84 ((2 * (dt 79 11)).toNat) p1) 84 (((2 * (dt 79 11)) + 1).toNat) p2) 79 16 := rfl
  have w41 : (u2 (u2 (u2 dt 84 ((2 * (dt 79 11)).toNat) p1) 84 (((2 * (dt 79 11)) + 1).toNat) p2) 79 11 ((dt 79 11) + 1)) 79 17 = (u2 (u2 dt 84 ((2 * (dt 79 11)).toNat) p1) 84 (((2 * (dt 79 11)) + 1).toNat) p2) 79 17 := rfl
  have w42 : (u2 (u2 (u2 dt 84 ((2 * (dt 79 11)).toNat) p1) 84 (((2 * (dt 79 11)) + 1).toNat) p2) 79 11 ((dt 79 11) + 1)) 79 18 = (u2 (u2 dt 84 ((2 * (dt 79 11)).toNat) p1) 84 (((2 * (dt 79 11)) + 1).toNat) p2) 79 18 := rfl
  have w43 : (u2 (u2 (u2 dt 84 ((2 * (dt 79 11)).toNat) p1) 84 (((2 * (dt 79 11)) + 1).toNat) p2) 79 11 ((dt 79 11) + 1)) 79 20 = (u2 (u2 dt 84 ((2 * (dt 79 11)).toNat) p1) 84 (((2 * (dt 79 11)) + 1).toNat) p2) 79 20 := rfl
  refine go_smpq PM163 (L' := [some (.inr (.inr (some 79))), some (.inl p1), some (.inl p2)]) (st' := []) (w' := (SH, (u2 (u2 (u2 dt 84 ((2 * (dt 79 11)).toNat) p1) 84 (((2 * (dt 79 11)) + 1).toNat) p2) 79 11 ((dt 79 11) + 1)))) rfl rfl (s_pf rfl rfl rfl rfl (by first | exact bndp r1 (by decide) (by decide) | exact ⟨by omega, by omega⟩)) ?_
  refine go_retq PM163 (k := 0) (r := none) (w1 := (SH, (u2 (u2 (u2 dt 84 ((2 * (dt 79 11)).toNat) p1) 84 (((2 * (dt 79 11)) + 1).toNat) p2) 79 11 ((dt 79 11) + 1)))) rfl ?_
  exact ⟨(u2 (u2 (u2 dt 84 ((2 * (dt 79 11)).toNat) p1) 84 (((2 * (dt 79 11)) + 1).toNat) p2) 79 11 ((dt 79 11) + 1)), rfl, hI30, hF31, ⟨rfl, ⟨by first | exact True.intro | with_reducible assumption | rfl | omega | trivial, by first | exact True.intro | with_reducible assumption | rfl | omega | trivial, by first | exact True.intro | with_reducible assumption | rfl | omega | trivial, by first | exact True.intro | with_reducible assumption | rfl | omega | trivial, by first | exact True.intro | with_reducible assumption | rfl | omega | trivial, by first | exact True.intro | with_reducible assumption | rfl | omega | trivial, by first | exact True.intro | with_reducible assumption | rfl | omega | trivial, by first | exact True.intro | with_reducible assumption | rfl | omega | trivial, by first | exact True.intro | with_reducible assumption | rfl | omega | trivial, by first | exact True.intro | with_reducible assumption | rfl | omega | trivial, by first | exact True.intro | with_reducible assumption | rfl | omega | trivial⟩⟩⟩
set_option maxHeartbeats 1500000 in
set_option maxRecDepth 20000 in
theorem sp_X6_unit_g (L : Nat) (xs : Nat → Int32) (sio : Option Nat) (d : Nat) (dt : Nat → Nat → Int) (hI : InvC dt) (b : Nat → Int) (n t i : Nat) (hbb : mB (dt 85) (dt 79 12) = b) (hnn : dt 79 12 = (n : Int)) (hz : KZ (KF 1 b n) t) (ht : t ≤ 500) (hc : CUR 1 b n dt i) (hi : i ≤ t) (hn5 : n ≤ 500)  (h_p0 : dt 79 9 = 1) (h_p1 : dt 79 11 ≤ dt 79 15) : GO (am_XX L xs sio) (d + 7) 167 0 [some (.inr (.inr (some 79))), none] [] (SH, dt) (fun r w2 => ∃ dt2 : Nat → Nat → Int, w2 = (SH, dt2) ∧ InvC dt2 ∧ Fr [79, 84] dt dt2 ∧ ((r = some (.inl 0) ∧ (RSX 1 b n i dt2 0 ((gU (KF 1 b n)) i)) ∧ (dt2 79 2 = dt 79 2) ∧ (dt2 79 9 = dt 79 9) ∧ (dt2 79 10 = dt 79 10) ∧ (dt2 79 12 = dt 79 12)) ∨ (r = some (.inl 1) ∧ (RSX 1 b n i dt2 1 ((gU (KF 1 b n)) i)) ∧ (dt 79 15 + dt2 79 11 ≤ dt2 79 15 + dt 79 11) ∧ (dt 79 11 + 1 ≤ dt2 79 11) ∧ (dt2 79 15 ≤ 500) ∧ (dt2 79 2 = dt 79 2) ∧ (dt2 79 9 = dt 79 9) ∧ (dt2 79 10 = dt 79 10) ∧ (dt2 79 12 = dt 79 12) ∧ (dt2 79 17 = dt 79 17) ∧ (dt2 79 20 = dt 79 20)))) := by
  have hF : Fr [79, 84] dt dt := Fr_refl
  have r1 : 0 ≤ dt 79 15 ∧ dt 79 15 ≤ 500 := InvC_get hI 79 15 rfl rfl
  have r2 : 0 ≤ dt 79 11 ∧ dt 79 11 ≤ 510 := InvC_get hI 79 11 rfl rfl
  have r3 : 0 ≤ dt 79 10 ∧ dt 79 10 ≤ 24 := InvC_get hI 79 10 rfl rfl
  have cr0 := hid (CUR_R hc (.inr rfl))
  have cd0 := CUR_d (hc)
  have cb0 := hid (CUR_b hc)
  have cv0 := hid (CUR_v hc)
  have ck0 := hid (KZ_lt (i := i) hz)
  have c10 := hc.1
  have r4 : (-2147483648) ≤ dt 79 14 ∧ dt 79 14 ≤ 2147483647 := InvC_get hI 79 14 rfl rfl
  refine go_toq PM167 (k := 4) (pc' := 8) (L' := [some (.inr (.inr (some 79))), none]) (st' := [.inl 46, .inl 41, .inl (dt 79 14)]) (w' := (SH, dt)) rfl ?_
  have u1_ := hid (And.intro (unhid cr0) (And.intro (unhid cb0) (And.intro (unhid cv0) (unhid ck0))))
  refine go_callq PM167 PM146 (Q' := _) rfl rfl rfl rfl (sp_X6_isIn L xs sio (d + 6) dt hI  (dt 79 14) (by first | exact bnd r4 (by decide) (by decide) | exact ⟨by (first | omega | (have z_ := unhid u1_; omega)), by (first | omega | (have z_ := unhid u1_; omega))⟩) 41 ⟨by decide, by decide⟩ 46 ⟨by decide, by decide⟩ ) ?_
  rintro _ _ ⟨rfl, h5⟩
  refine ⟨rfl, ?_⟩
  rcases h5 with ⟨rfl, h5⟩ | ⟨rfl, h5⟩
  · skip
    refine go_ifq PM167 (k := 4) (p1 := 30) (p2 := 20) (L' := [some (.inr (.inr (some 79))), some (.inl 1)]) (st' := []) (w' := (SH, dt)) rfl (c_eq (a := dt 79 14) (b := 2) (by first | exact bnd r4 (by decide) (by decide) | exact ⟨by (first | omega | (have z_ := unhid u1_; omega)), by (first | omega | (have z_ := unhid u1_; omega))⟩) ⟨by decide, by decide⟩) (fun c6 => ?_) (fun c6 => ?_)
    · exfalso; (first | omega | (have z_ := unhid u1_; omega))
    · skip
      replace c6 := hid c6
      have r7 : 0 ≤ dt 79 16 ∧ dt 79 16 ≤ 9999 := InvC_get hI 79 16 rfl rfl
      refine go_toq PM167 (k := 12) (pc' := 50) (L' := [some (.inr (.inr (some 79))), some (.inl 1)]) (st' := [.inl (dt 79 16), .inl ((dt 79 14) - 40), .inr (.inr (some 79))]) (w' := (SH, dt)) rfl ?_
      have u2_ := hid (And.intro (unhid cr0) (And.intro (unhid cb0) (And.intro (unhid cv0) (And.intro (unhid ck0) (unhid c6)))))
      refine go_callq PM167 PM163 (Q' := _) rfl rfl rfl rfl (sp_X6_lay_g L xs sio (d + 6) dt hI  ((dt 79 14) - 40) ⟨by (first | omega | (have z_ := unhid u2_; omega)), by (first | omega | (have z_ := unhid u2_; omega))⟩ (dt 79 16) (by first | exact bnd r7 (by decide) (by decide) | exact ⟨by (first | omega | (have z_ := unhid u2_; omega)), by (first | omega | (have z_ := unhid u2_; omega))⟩) (by first | exact True.intro | with_reducible assumption | exact unhid (by with_reducible assumption) | rfl | (first | omega | (have z_ := unhid u2_; omega)) | trivial)) ?_
      rintro _ _ ⟨dt9, rfl, hI10, hF11, h8⟩
      refine ⟨rfl, ?_⟩
      have hF12 : Fr [79, 84] dt dt9 := Fr_tr hF hF11 (by decide)
      rcases h8 with ⟨rfl, h8⟩
      obtain ⟨h8_0, h8_1, h8_2, h8_3, h8_4, h8_5, h8_6, h8_7, h8_8, h8_9, h8_10⟩ := h8
      have w13 : dt9 79 2 = dt 79 2 := h8_1
      have w14 : dt9 79 9 = dt 79 9 := h8_2
      have w15 : dt9 79 10 = dt 79 10 := h8_3
      have w16 : dt9 79 12 = dt 79 12 := h8_4
      have w17 : dt9 79 13 = dt 79 13 := h8_5
      have w18 : dt9 79 14 = dt 79 14 := h8_6
      have w19 : dt9 79 15 = dt 79 15 := h8_7
      have w20 : dt9 79 16 = dt 79 16 := h8_8
      have w21 : dt9 79 17 = dt 79 17 := h8_9
      have w22 : dt9 79 20 = dt 79 20 := h8_10
      have hc23 : CUR 1 b n dt9 i := CUR_sm hc (by first | with_reducible assumption | exact unhid (by with_reducible assumption) | rfl | (first | omega | (have z_ := unhid u2_; omega))) (by first | with_reducible assumption | exact unhid (by with_reducible assumption) | rfl | (first | omega | (have z_ := unhid u2_; omega))) (by first | with_reducible assumption | exact unhid (by with_reducible assumption) | rfl | (first | omega | (have z_ := unhid u2_; omega))) (by first | with_reducible assumption | exact unhid (by with_reducible assumption) | rfl | (first | omega | (have z_ := unhid u2_; omega)))
      clear h8_1 h8_2 h8_3 h8_4 h8_5 h8_6 h8_7 h8_8 h8_9 h8_10
      refine go_toq PM167 (k := 1) (pc' := 54) (L' := [some (.inr (.inr (some 79))), some (.inl 1)]) (st' := [.inr (.inr (some 79))]) (w' := (SH, dt9)) rfl ?_
      refine go_callq PM167 PM159 (Q' := _) rfl rfl rfl rfl (sp_X6_next0_p1 L xs sio (d + 0) dt9 hI10   (by first | exact True.intro | with_reducible assumption | exact unhid (by with_reducible assumption) | rfl | (first | omega | (have z_ := unhid u2_; omega)) | trivial) (by first | exact True.intro | with_reducible assumption | exact unhid (by with_reducible assumption) | rfl | (first | omega | (have z_ := unhid u2_; omega)) | trivial)) ?_
      rintro _ _ ⟨dt25, rfl, hI26, hF27, h24⟩
      refine ⟨rfl, ?_⟩
      have hF28 : Fr [79, 84] dt dt25 := Fr_tr hF12 hF27 (by decide)
      rcases h24 with ⟨rfl, h24⟩
      obtain ⟨h24_0, h24_1, h24_2, h24_3, h24_4, h24_5, h24_6, h24_7, h24_8⟩ := h24
      have w29 : dt25 79 2 = dt 79 2 := h24_2.trans w13
      have w30 : dt25 79 9 = dt 79 9 := h24_3.trans w14
      have w31 : dt25 79 10 = dt 79 10 := h24_4.trans w15
      have w32 : dt25 79 11 = dt9 79 11 := h24_5
      have w33 : dt25 79 12 = dt 79 12 := h24_6.trans w16
      have w34 : dt25 79 17 = dt 79 17 := h24_7.trans w21
      have w35 : dt25 79 20 = dt 79 20 := h24_8.trans w22
      have hq36 := h24_0
      rw [show dt9 85 = dt 85 from funext (hF12 85 (by decide)), show dt9 79 12 = dt 79 12 by first | with_reducible assumption | exact unhid (by with_reducible assumption) | (first | omega | (have z_ := unhid u2_; omega)), hbb, show (dt 79 12).toNat = n from (congrArg Int.toNat hnn).trans (Int.toNat_natCast n)] at hq36
      have hc37 : CUR 1 b n dt25 (i + 1) := CUR_n hc23 hq36
      have hi38 : i + 1 ≤ t := by (have z_ := unhid u2_; omega)
      have av39 : dt9 79 15 + 1 ≤ dt9 79 13 := by (have z_ := unhid u2_; omega)
      have hp40 : (gU (KF 1 b n)) i = gOk (i + 1) := (rfl : (gU (KF 1 b n)) i = (gU (KF 1 b n)) i).trans (by show gU _ _ = _; unfold gU; rw [if_pos (by (have z_ := unhid u2_; omega))]; rfl)
      clear cr0 cb0 cd0 cv0 ck0
      have cr41 := hid (CUR_R hc37 (.inr rfl))
      have cd42 := CUR_d (hc37)
      have cb42 := hid (CUR_b hc37)
      have cv43 := hid (CUR_v hc37)
      have ck44 := hid (KZ_lt (i := (i + 1)) hz)
      have c145 := (hc37).1
      have ci46 := hi38
      clear h24_2 w13 h24_3 w14 h24_4 h24_5 h24_6 w16 h24_7 w21 h24_8 w22
      refine go_retq PM167 (k := 1) (r := some (.inl 1)) (w1 := (SH, dt25)) rfl ?_
      have u3_ := hid (And.intro (unhid c6) (And.intro (unhid cr41) (And.intro (unhid cb42) (And.intro (unhid cv43) (unhid ck44)))))
      exact ⟨dt25, rfl, hI26, hF28, (Or.inr ⟨rfl, ⟨by exact RSX_ok (hp40.trans (by rfl)) hc37, by first | exact True.intro | with_reducible assumption | exact unhid (by with_reducible assumption) | rfl | (first | omega | (have z_ := unhid u3_; omega)) | trivial, by first | exact True.intro | with_reducible assumption | exact unhid (by with_reducible assumption) | rfl | (first | omega | (have z_ := unhid u3_; omega)) | trivial, by exact (InvC_get (by assumption) 79 15 rfl rfl).2, by first | exact True.intro | with_reducible assumption | exact unhid (by with_reducible assumption) | rfl | (first | omega | (have z_ := unhid u3_; omega)) | trivial, by first | exact True.intro | with_reducible assumption | exact unhid (by with_reducible assumption) | rfl | (first | omega | (have z_ := unhid u3_; omega)) | trivial, by first | exact True.intro | with_reducible assumption | exact unhid (by with_reducible assumption) | rfl | (first | omega | (have z_ := unhid u3_; omega)) | trivial, by first | exact True.intro | with_reducible assumption | exact unhid (by with_reducible assumption) | rfl | (first | omega | (have z_ := unhid u3_; omega)) | trivial, by first | exact True.intro | with_reducible assumption | exact unhid (by with_reducible assumption) | rfl | (first | omega | (have z_ := unhid u3_; omega)) | trivial, by first | exact True.intro | with_reducible assumption | exact unhid (by with_reducible assumption) | rfl | (first | omega | (have z_ := unhid u3_; omega)) | trivial⟩⟩)⟩
  · skip
    refine go_ifq PM167 (k := 4) (p1 := 30) (p2 := 20) (L' := [some (.inr (.inr (some 79))), some (.inl 0)]) (st' := []) (w' := (SH, dt)) rfl (c_eq (a := dt 79 14) (b := 2) (by first | exact bnd r4 (by decide) (by decide) | exact ⟨by (first | omega | (have z_ := unhid u1_; omega)), by (first | omega | (have z_ := unhid u1_; omega))⟩) ⟨by decide, by decide⟩) (fun c47 => ?_) (fun c47 => ?_)
    · skip
      have r48 : 0 ≤ dt 79 16 ∧ dt 79 16 ≤ 9999 := InvC_get hI 79 16 rfl rfl
      refine go_toq PM167 (k := 6) (pc' := 50) (L' := [some (.inr (.inr (some 79))), some (.inl 0)]) (st' := [.inl (dt 79 16), .inl 0, .inr (.inr (some 79))]) (w' := (SH, dt)) rfl ?_
      refine go_callq PM167 PM163 (Q' := _) rfl rfl rfl rfl (sp_X6_lay_g L xs sio (d + 6) dt hI  0 ⟨by decide, by decide⟩ (dt 79 16) (by first | exact bnd r48 (by decide) (by decide) | exact ⟨by (first | omega | (have z_ := unhid u1_; omega)), by (first | omega | (have z_ := unhid u1_; omega))⟩) (by first | exact True.intro | with_reducible assumption | exact unhid (by with_reducible assumption) | rfl | (first | omega | (have z_ := unhid u1_; omega)) | trivial)) ?_
      rintro _ _ ⟨dt50, rfl, hI51, hF52, h49⟩
      refine ⟨rfl, ?_⟩
      have hF53 : Fr [79, 84] dt dt50 := Fr_tr hF hF52 (by decide)
      rcases h49 with ⟨rfl, h49⟩
      obtain ⟨h49_0, h49_1, h49_2, h49_3, h49_4, h49_5, h49_6, h49_7, h49_8, h49_9, h49_10⟩ := h49
      have w54 : dt50 79 2 = dt 79 2 := h49_1
      have w55 : dt50 79 9 = dt 79 9 := h49_2
      have w56 : dt50 79 10 = dt 79 10 := h49_3
      have w57 : dt50 79 12 = dt 79 12 := h49_4
      have w58 : dt50 79 13 = dt 79 13 := h49_5
      have w59 : dt50 79 14 = dt 79 14 := h49_6
      have w60 : dt50 79 15 = dt 79 15 := h49_7
      have w61 : dt50 79 16 = dt 79 16 := h49_8
      have w62 : dt50 79 17 = dt 79 17 := h49_9
      have w63 : dt50 79 20 = dt 79 20 := h49_10
      have hc64 : CUR 1 b n dt50 i := CUR_sm hc (by first | with_reducible assumption | exact unhid (by with_reducible assumption) | rfl | (first | omega | (have z_ := unhid u1_; omega))) (by first | with_reducible assumption | exact unhid (by with_reducible assumption) | rfl | (first | omega | (have z_ := unhid u1_; omega))) (by first | with_reducible assumption | exact unhid (by with_reducible assumption) | rfl | (first | omega | (have z_ := unhid u1_; omega))) (by first | with_reducible assumption | exact unhid (by with_reducible assumption) | rfl | (first | omega | (have z_ := unhid u1_; omega)))
      clear h49_1 h49_2 h49_3 h49_4 h49_5 h49_6 h49_7 h49_8 h49_9 h49_10
      refine go_toq PM167 (k := 1) (pc' := 54) (L' := [some (.inr (.inr (some 79))), some (.inl 0)]) (st' := [.inr (.inr (some 79))]) (w' := (SH, dt50)) rfl ?_
      refine go_callq PM167 PM159 (Q' := _) rfl rfl rfl rfl (sp_X6_next0_p1 L xs sio (d + 0) dt50 hI51   (by first | exact True.intro | with_reducible assumption | exact unhid (by with_reducible assumption) | rfl | (first | omega | (have z_ := unhid u1_; omega)) | trivial) (by first | exact True.intro | with_reducible assumption | exact unhid (by with_reducible assumption) | rfl | (first | omega | (have z_ := unhid u1_; omega)) | trivial)) ?_
      rintro _ _ ⟨dt66, rfl, hI67, hF68, h65⟩
      refine ⟨rfl, ?_⟩
      have hF69 : Fr [79, 84] dt dt66 := Fr_tr hF53 hF68 (by decide)
      rcases h65 with ⟨rfl, h65⟩
      obtain ⟨h65_0, h65_1, h65_2, h65_3, h65_4, h65_5, h65_6, h65_7, h65_8⟩ := h65
      have w70 : dt66 79 2 = dt 79 2 := h65_2.trans w54
      have w71 : dt66 79 9 = dt 79 9 := h65_3.trans w55
      have w72 : dt66 79 10 = dt 79 10 := h65_4.trans w56
      have w73 : dt66 79 11 = dt50 79 11 := h65_5
      have w74 : dt66 79 12 = dt 79 12 := h65_6.trans w57
      have w75 : dt66 79 17 = dt 79 17 := h65_7.trans w62
      have w76 : dt66 79 20 = dt 79 20 := h65_8.trans w63
      have hq77 := h65_0
      rw [show dt50 85 = dt 85 from funext (hF53 85 (by decide)), show dt50 79 12 = dt 79 12 by first | with_reducible assumption | exact unhid (by with_reducible assumption) | (first | omega | (have z_ := unhid u1_; omega)), hbb, show (dt 79 12).toNat = n from (congrArg Int.toNat hnn).trans (Int.toNat_natCast n)] at hq77
      have hc78 : CUR 1 b n dt66 (i + 1) := CUR_n hc64 hq77
      have hi79 : i + 1 ≤ t := by (have z_ := unhid u1_; omega)
      have av80 : dt50 79 15 + 1 ≤ dt50 79 13 := by (have z_ := unhid u1_; omega)
      have hp81 : (gU (KF 1 b n)) i = gOk (i + 1) := (rfl : (gU (KF 1 b n)) i = (gU (KF 1 b n)) i).trans (by show gU _ _ = _; unfold gU; rw [if_pos (by (have z_ := unhid u1_; omega))]; rfl)
      clear cr0 cb0 cd0 cv0 ck0
      have cr82 := hid (CUR_R hc78 (.inr rfl))
      have cd83 := CUR_d (hc78)
      have cb83 := hid (CUR_b hc78)
      have cv84 := hid (CUR_v hc78)
      have ck85 := hid (KZ_lt (i := (i + 1)) hz)
      have c186 := (hc78).1
      have ci87 := hi79
      clear h65_2 w54 h65_3 w55 h65_4 h65_5 h65_6 w57 h65_7 w62 h65_8 w63
      refine go_retq PM167 (k := 1) (r := some (.inl 1)) (w1 := (SH, dt66)) rfl ?_
      have u4_ := hid (And.intro (unhid cr82) (And.intro (unhid cb83) (And.intro (unhid cv84) (unhid ck85))))
      exact ⟨dt66, rfl, hI67, hF69, (Or.inr ⟨rfl, ⟨by exact RSX_ok (hp81.trans (by rfl)) hc78, by first | exact True.intro | with_reducible assumption | exact unhid (by with_reducible assumption) | rfl | (first | omega | (have z_ := unhid u4_; omega)) | trivial, by first | exact True.intro | with_reducible assumption | exact unhid (by with_reducible assumption) | rfl | (first | omega | (have z_ := unhid u4_; omega)) | trivial, by exact (InvC_get (by assumption) 79 15 rfl rfl).2, by first | exact True.intro | with_reducible assumption | exact unhid (by with_reducible assumption) | rfl | (first | omega | (have z_ := unhid u4_; omega)) | trivial, by first | exact True.intro | with_reducible assumption | exact unhid (by with_reducible assumption) | rfl | (first | omega | (have z_ := unhid u4_; omega)) | trivial, by first | exact True.intro | with_reducible assumption | exact unhid (by with_reducible assumption) | rfl | (first | omega | (have z_ := unhid u4_; omega)) | trivial, by first | exact True.intro | with_reducible assumption | exact unhid (by with_reducible assumption) | rfl | (first | omega | (have z_ := unhid u4_; omega)) | trivial, by first | exact True.intro | with_reducible assumption | exact unhid (by with_reducible assumption) | rfl | (first | omega | (have z_ := unhid u4_; omega)) | trivial, by first | exact True.intro | with_reducible assumption | exact unhid (by with_reducible assumption) | rfl | (first | omega | (have z_ := unhid u4_; omega)) | trivial⟩⟩)⟩
    · skip
      replace c47 := hid c47
      refine go_toq PM167 (k := 4) (pc' := 26) (L' := [some (.inr (.inr (some 79))), some (.inl 0)]) (st' := [.inl 1, .inr (.inr (some 79))]) (w' := (SH, dt)) rfl ?_
      refine go_callq PM167 PM160 (Q' := _) rfl rfl rfl rfl (sp_X6_bad_g L xs sio (d + 6) dt hI  1 ⟨by decide, by decide⟩ ) ?_
      rintro _ _ ⟨dt89, rfl, hI90, hF91, h88⟩
      refine ⟨rfl, ?_⟩
      have hF92 : Fr [79, 84] dt dt89 := Fr_tr hF hF91 (by decide)
      rcases h88 with ⟨rfl, h88⟩
      obtain ⟨h88_0, h88_1, h88_2, h88_3, h88_4, h88_5, h88_6, h88_7, h88_8, h88_9, h88_10, h88_11⟩ := h88
      have w93 : dt89 79 2 = dt 79 2 := h88_2
      have w94 : dt89 79 9 = dt 79 9 := h88_3
      have w95 : dt89 79 10 = dt 79 10 := h88_4
      have w96 : dt89 79 11 = dt 79 11 := h88_5
      have w97 : dt89 79 12 = dt 79 12 := h88_6
      have w98 : dt89 79 13 = dt 79 13 := h88_7
      have w99 : dt89 79 14 = dt 79 14 := h88_8
      have w100 : dt89 79 15 = dt 79 15 := h88_9
      have w101 : dt89 79 16 = dt 79 16 := h88_10
      have w102 : dt89 79 20 = dt 79 20 := h88_11
      have u5_ := hid (And.intro (unhid cr0) (And.intro (unhid cb0) (And.intro (unhid cv0) (And.intro (unhid ck0) (unhid c47)))))
      have hc103 : CUR 1 b n dt89 i := CUR_sm hc (by first | with_reducible assumption | exact unhid (by with_reducible assumption) | rfl | (first | omega | (have z_ := unhid u5_; omega))) (by first | with_reducible assumption | exact unhid (by with_reducible assumption) | rfl | (first | omega | (have z_ := unhid u5_; omega))) (by first | with_reducible assumption | exact unhid (by with_reducible assumption) | rfl | (first | omega | (have z_ := unhid u5_; omega))) (by first | with_reducible assumption | exact unhid (by with_reducible assumption) | rfl | (first | omega | (have z_ := unhid u5_; omega)))
      clear h88_2 h88_3 h88_4 h88_5 h88_6 h88_7 h88_8 h88_9 h88_10 h88_11
      refine go_retq PM167 (k := 0) (r := some (.inl 0)) (w1 := (SH, dt89)) rfl ?_
      exact ⟨dt89, rfl, hI90, hF92, (Or.inl ⟨rfl, ⟨by first | exact RSX_f hI hI (by first | rfl | with_reducible assumption | exact unhid (by with_reducible assumption) | (first | omega | (have z_ := unhid u5_; omega))) (by first | rfl | with_reducible assumption | exact unhid (by with_reducible assumption) | (first | omega | (have z_ := unhid u5_; omega))) | exact RSX_no (k := 1) (j := i) ((rfl : (gU (KF 1 b n)) i = (gU (KF 1 b n)) i).trans (by show gU _ _ = _; unfold gU; rw [if_neg (by (first | omega | (have z_ := unhid u5_; omega)))])) (by decide) (by (first | omega | (have z_ := unhid u5_; omega))) (by show _ = ((TP b n i : Nat) : Int); (first | omega | (have z_ := unhid u5_; omega))), by first | exact True.intro | with_reducible assumption | exact unhid (by with_reducible assumption) | rfl | (first | omega | (have z_ := unhid u5_; omega)) | trivial, by first | exact True.intro | with_reducible assumption | exact unhid (by with_reducible assumption) | rfl | (first | omega | (have z_ := unhid u5_; omega)) | trivial, by first | exact True.intro | with_reducible assumption | exact unhid (by with_reducible assumption) | rfl | (first | omega | (have z_ := unhid u5_; omega)) | trivial, by first | exact True.intro | with_reducible assumption | exact unhid (by with_reducible assumption) | rfl | (first | omega | (have z_ := unhid u5_; omega)) | trivial⟩⟩)⟩
