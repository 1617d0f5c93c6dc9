set_option maxRecDepth 20000 in
theorem sp_X6_lay_g (L : Nat) (xs : Nat → Int32) (sio : Option Nat) (d : Nat) (dt : Nat → Nat → Int) (hI : InvC dt)  (p1 : Int) (h_p1 : 0 ≤ p1 ∧ p1 ≤ 16) (p2 : Int) (h_p2 : (-2147483648) ≤ p2 ∧ p2 ≤ 2147483647) (h_p0 : dt 79 11 ≤ 509) (h_p1 : p1 = 0 → 0 ≤ p2) : GO (am_XX L xs sio) (d) 163 0 [some (.inr (.inr (some 79))), some (.inl p1), some (.inl p2)] [] (SH, dt) (fun r w2 => ∃ dt2 : Nat → Nat → Int, w2 = (SH, dt2) ∧ InvC dt2 ∧ Fr [79, 84] dt dt2 ∧ ((r = none ∧ (dt2 79 11 = dt 79 11 + 1) ∧ (RXD dt dt2 (stx p1 p2)) ∧ (dt2 79 2 = dt 79 2) ∧ (dt2 79 9 = dt 79 9) ∧ (dt2 79 10 = dt 79 10) ∧ (dt2 79 12 = dt 79 12) ∧ (dt2 79 13 = dt 79 13) ∧ (dt2 79 14 = dt 79 14) ∧ (dt2 79 15 = dt 79 15) ∧ (dt2 79 16 = dt 79 16) ∧ (dt2 79 17 = dt 79 17) ∧ (dt2 79 20 = dt 79 20)))) := by
  replace h_p1 := hid h_p1
  have hF : Fr [79, 84] dt dt := Fr_refl
  have r1 : 0 ≤ dt 79 11 ∧ dt 79 11 ≤ 510 := InvC_get hI 79 11 rfl rfl
  refine go_toq PM163 (k := 7) (pc' := 11) (L' := [some (.inr (.inr (some 79))), some (.inl p1), some (.inl p2)]) (st' := [.inl p1, .inl (2 * (dt 79 11)), .inr (.inr (some 84))]) (w' := (SH, dt)) rfl ?_
  have hI2 : InvC (u2 dt 84 ((2 * (dt 79 11)).toNat) p1) := InvC_u2 hI (lo := -2147483648) (hi := 2147483647) rfl rfl rfl (by first | exact bnd1 h_p1 (by decide) | omega) (by first | exact bnd2 h_p1 (by decide) | omega)
  have hF3 : Fr [79, 84] dt (u2 dt 84 ((2 * (dt 79 11)).toNat) p1) := Fr_u2 hF (by decide)
  have w4 : (u2 dt 84 ((2 * (dt 79 11)).toNat) p1) 79 2 = dt 79 2 := rfl
  have w5 : (u2 dt 84 ((2 * (dt 79 11)).toNat) p1) 79 9 = dt 79 9 := rfl
  have w6 : (u2 dt 84 ((2 * (dt 79 11)).toNat) p1) 79 10 = dt 79 10 := rfl
  have w7 : (u2 dt 84 ((2 * (dt 79 11)).toNat) p1) 79 11 = dt 79 11 := rfl
  have w8 : (u2 dt 84 ((2 * (dt 79 11)).toNat) p1) 79 12 = dt 79 12 := rfl
  have w9 : (u2 dt 84 ((2 * (dt 79 11)).toNat) p1) 79 13 = dt 79 13 := rfl
  have w10 : (u2 dt 84 ((2 * (dt 79 11)).toNat) p1) 79 14 = dt 79 14 := rfl
  have w11 : (u2 dt 84 ((2 * (dt 79 11)).toNat) p1) 79 15 = dt 79 15 := rfl
  have w12 : (u2 dt 84 ((2 * (dt 79 11)).toNat) p1) 79 16 = dt 79 16 := rfl
  have w13 : (u2 dt 84 ((2 * (dt 79 11)).toNat) p1) 79 17 = dt 79 17 := rfl
  have w14 : (u2 dt 84 ((2 * (dt 79 11)).toNat) p1) 79 18 = dt 79 18 := rfl
  have w15 : (u2 dt 84 ((2 * (dt 79 11)).toNat) p1) 79 20 = dt 79 20 := rfl
  refine go_smpq PM163 (L' := [some (.inr (.inr (some 79))), some (.inl p1), some (.inl p2)]) (st' := []) (w' := (SH, (u2 dt 84 ((2 * (dt 79 11)).toNat) p1))) rfl rfl (s_iast (n := 1020) rfl ⟨by omega, by omega⟩ (by first | exact bnd h_p1 (by decide) (by decide) | exact ⟨by omega, by omega⟩)) ?_
  refine go_toq PM163 (k := 9) (pc' := 25) (L' := [some (.inr (.inr (some 79))), some (.inl p1), some (.inl p2)]) (st' := [.inl p2, .inl ((2 * (dt 79 11)) + 1), .inr (.inr (some 84))]) (w' := (SH, (u2 dt 84 ((2 * (dt 79 11)).toNat) p1))) rfl ?_
  have hI16 : InvC (u2 (u2 dt 84 ((2 * (dt 79 11)).toNat) p1) 84 (((2 * (dt 79 11)) + 1).toNat) p2) := InvC_u2 hI2 (lo := -2147483648) (hi := 2147483647) rfl rfl rfl (by first | exact bnd1 h_p2 (by decide) | fail) (by first | exact bnd2 h_p2 (by decide) | fail)
  have hF17 : Fr [79, 84] dt (u2 (u2 dt 84 ((2 * (dt 79 11)).toNat) p1) 84 (((2 * (dt 79 11)) + 1).toNat) p2) := Fr_u2 hF3 (by decide)
  have w18 : (u2 (u2 dt 84 ((2 * (dt 79 11)).toNat) p1) 84 (((2 * (dt 79 11)) + 1).toNat) p2) 79 2 = (u2 dt 84 ((2 * (dt 79 11)).toNat) p1) 79 2 := rfl
  have w19 : (u2 (u2 dt 84 ((2 * (dt 79 11)).toNat) p1) 84 (((2 * (dt 79 11)) + 1).toNat) p2) 79 9 = (u2 dt 84 ((2 * (dt 79 11)).toNat) p1) 79 9 := rfl
  have w20 : (u2 (u2 dt 84 ((2 * (dt 79 11)).toNat) p1) 84 (((2 * (dt 79 11)) + 1).toNat) p2) 79 10 = (u2 dt 84 ((2 * (dt 79 11)).toNat) p1) 79 10 := rfl
  have w21 : (u2 (u2 dt 84 ((2 * (dt 79 11)).toNat) p1) 84 (((2 * (dt 79 11)) + 1).toNat) p2) 79 11 = (u2 dt 84 ((2 * (dt 79 11)).toNat) p1) 79 11 := rfl
  have w22 : (u2 (u2 dt 84 ((2 * (dt 79 11)).toNat) p1) 84 (((2 * (dt 79 11)) + 1).toNat) p2) 79 12 = (u2 dt 84 ((2 * (dt 79 11)).toNat) p1) 79 12 := rfl
  have w23 : (u2 (u2 dt 84 ((2 * (dt 79 11)).toNat) p1) 84 (((2 * (dt 79 11)) + 1).toNat) p2) 79 13 = (u2 dt 84 ((2 * (dt 79 11)).toNat) p1) 79 13 := rfl
  have w24 : (u2 (u2 dt 84 ((2 * (dt 79 11)).toNat) p1) 84 (((2 * (dt 79 11)) + 1).toNat) p2) 79 14 = (u2 dt 84 ((2 * (dt 79 11)).toNat) p1) 79 14 := rfl
  have w25 : (u2 (u2 dt 84 ((2 * (dt 79 11)).toNat) p1) 84 (((2 * (dt 79 11)) + 1).toNat) p2) 79 15 = (u2 dt 84 ((2 * (dt 79 11)).toNat) p1) 79 15 := rfl
  have w26 : (u2 (u2 dt 84 ((2 * (dt 79 11)).toNat) p1) 84 (((2 * (dt 79 11)) + 1).toNat) p2) 79 16 = (u2 dt 84 ((2 * (dt 79 11)).toNat) p1) 79 16 := rfl
  have w27 : (u2 (u2 dt 84 ((2 * (dt 79 11)).toNat) p1) 84 (((2 * (dt 79 11)) + 1).toNat) p2) 79 17 = (u2 dt 84 ((2 * (dt 79 11)).toNat) p1) 79 17 := rfl
  have w28 : (u2 (u2 dt 84 ((2 * (dt 79 11)).toNat) p1) 84 (((2 * (dt 79 11)) + 1).toNat) p2) 79 18 = (u2 dt 84 ((2 * (dt 79 11)).toNat) p1) 79 18 := rfl
  have w29 : (u2 (u2 dt 84 ((2 * (dt 79 11)).toNat) p1) 84 (((2 * (dt 79 11)) + 1).toNat) p2) 79 20 = (u2 dt 84 ((2 * (dt 79 11)).toNat) p1) 79 20 := rfl
  refine go_smpq PM163 (L' := [some (.inr (.inr (some 79))), some (.inl p1), some (.inl p2)]) (st' := []) (w' := (SH, (u2 (u2 dt 84 ((2 * (dt 79 11)).toNat) p1) 84 (((2 * (dt 79 11)) + 1).toNat) p2))) rfl rfl (s_iast (n := 1020) rfl ⟨by omega, by omega⟩ (by first | exact bnd h_p2 (by decide) (by decide) | exact ⟨by fail, by fail⟩)) ?_
  refine go_toq PM163 (k := 5) (pc' := 33) (L' := [some (.inr (.inr (some 79))), some (.inl p1), some (.inl p2)]) (st' := [.inl ((dt 79 11) + 1), .inr (.inr (some 79))]) (w' := (SH, (u2 (u2 dt 84 ((2 * (dt 79 11)).toNat) p1) 84 (((2 * (dt 79 11)) + 1).toNat) p2))) rfl ?_
  have hI30 : InvC (u2 (u2 (u2 dt 84 ((2 * (dt 79 11)).toNat) p1) 84 (((2 * (dt 79 11)) + 1).toNat) p2) 79 11 ((dt 79 11) + 1)) := InvC_u2 hI16 (lo := 0) (hi := 510) rfl rfl rfl (by omega) (by omega)
  have hF31 : Fr [79, 84] dt (u2 (u2 (u2 dt 84 ((2 * (dt 79 11)).toNat) p1) 84 (((2 * (dt 79 11)) + 1).toNat) p2) 79 11 ((dt 79 11) + 1)) := Fr_u2 hF17 (by decide)
  have w32 : (u2 (u2 (u2 dt 84 ((2 * (dt 79 11)).toNat) p1) 84 (((2 * (dt 79 11)) + 1).toNat) p2) 79 11 ((dt 79 11) + 1)) 79 2 = (u2 (u2 dt 84 ((2 * (dt 79 11)).toNat) p1) 84 (((2 * (dt 79 11)) + 1).toNat) p2) 79 2 := rfl
  have w33 : (u2 (u2 (u2 dt 84 ((2 * (dt 79 11)).toNat) p1) 84 (((2 * (dt 79 11)) + 1).toNat) p2) 79 11 ((dt 79 11) + 1)) 79 9 = (u2 (u2 dt 84 ((2 * (dt 79 11)).toNat) p1) 84 (((2 * (dt 79 11)) + 1).toNat) p2) 79 9 := rfl
  have w34 : (u2 (u2 (u2 dt 84 ((2 * (dt 79 11)).toNat) p1) 84 (((2 * (dt 79 11)) + 1).toNat) p2) 79 11 ((dt 79 11) + 1)) 79 10 = (u2 (u2 dt 84 ((2 * (dt 79 11)).toNat) p1) 84 (((2 * (dt 79 11)) + 1).toNat) p2) 79 10 := rfl
  have w35 : (u2 (u2 (u2 dt 84 ((2 * (dt 79 11)).toNat) p1) 84 (((2 * (dt 79 11)) + 1).toNat) p2) 79 11 ((dt 79 11) + 1)) 79 11 = (dt 79 11) + 1 := rfl
  have w36 : (u2 (u2 (u2 dt 84 ((2 * (dt 79 11)).toNat) p1) 84 (((2 * (dt 79 11)) + 1).toNat) p2) 79 11 ((dt 79 11) + 1)) 79 12 = (u2 (u2 dt 84 ((2 * (dt 79 11)).toNat) p1) 84 (((2 * (dt 79 11)) + 1).toNat) p2) 79 12 := rfl
  have w37 : (u2 (u2 (u2 dt 84 ((2 * (dt 79 11)).toNat) p1) 84 (((2 * (dt 79 11)) + 1).toNat) p2) 79 11 ((dt 79 11) + 1)) 79 13 = (u2 (u2 dt 84 ((2 * (dt 79 11)).toNat) p1) 84 (((2 * (dt 79 11)) + 1).toNat) p2) 79 13 := rfl
  have w38 : (u2 (u2 (u2 dt 84 ((2 * (dt 79 11)).toNat) p1) 84 (((2 * (dt 79 11)) + 1).toNat) p2) 79 11 ((dt 79 11) + 1)) 79 14 = (u2 (u2 dt 84 ((2 * (dt 79 11)).toNat) p1) 84 (((2 * (dt 79 11)) + 1).toNat) p2) 79 14 := rfl
  have w39 : (u2 (u2 (u2 dt 84 ((2 * (dt 79 11)).toNat) p1) 84 (((2 * (dt 79 11)) + 1).toNat) p2) 79 11 ((dt 79 11) + 1)) 79 15 = (u2 (u2 dt 84 ((2 * (dt 79 11)).toNat) p1) 84 (((2 * (dt 79 11)) + 1).toNat) p2) 79 15 := rfl
  have w40 : (u2 (u2 (u2 dt 84 ((2 * (dt 79 11)).toNat) p1) 84 (((2 * (dt 79 11)) + 1).toNat) p2) 79 11 ((dt 79 11) + 1)) 79 16 = (u2 (u2 dt 84 ((2 * (dt 79 11)).toNat) p1) 84 (((2 * (dt 79 11)) + 1).toNat) p2) 79 16 := rfl
  have w41 : (u2 (u2 (u2 dt 84 ((2 * (dt 79 11)).toNat) p1) 84 (((2 * (dt 79 11)) + 1).toNat) p2) 79 11 ((dt 79 11) + 1)) 79 17 = (u2 (u2 dt 84 ((2 * (dt 79 11)).toNat) p1) 84 (((2 * (dt 79 11)) + 1).toNat) p2) 79 17 := rfl
  have w42 : (u2 (u2 (u2 dt 84 ((2 * (dt 79 11)).toNat) p1) 84 (((2 * (dt 79 11)) + 1).toNat) p2) 79 11 ((dt 79 11) + 1)) 79 18 = (u2 (u2 dt 84 ((2 * (dt 79 11)).toNat) p1) 84 (((2 * (dt 79 11)) + 1).toNat) p2) 79 18 := rfl
  have w43 : (u2 (u2 (u2 dt 84 ((2 * (dt 79 11)).toNat) p1) 84 (((2 * (dt 79 11)) + 1).toNat) p2) 79 11 ((dt 79 11) + 1)) 79 20 = (u2 (u2 dt 84 ((2 * (dt 79 11)).toNat) p1) 84 (((2 * (dt 79 11)) + 1).toNat) p2) 79 20 := rfl
  refine go_smpq PM163 (L' := [some (.inr (.inr (some 79))), some (.inl p1), some (.inl p2)]) (st' := []) (w' := (SH, (u2 (u2 (u2 dt 84 ((2 * (dt 79 11)).toNat) p1) 84 (((2 * (dt 79 11)) + 1).toNat) p2) 79 11 ((dt 79 11) + 1)))) rfl rfl (s_pf rfl rfl rfl rfl (by first | exact bndp r1 (by decide) (by decide) | exact ⟨by fail, by fail⟩)) ?_
  refine go_retq PM163 (k := 0) (r := none) (w1 := (SH, (u2 (u2 (u2 dt 84 ((2 * (dt 79 11)).toNat) p1) 84 (((2 * (dt 79 11)) + 1).toNat) p2) 79 11 ((dt 79 11) + 1)))) rfl ?_
  exact ⟨(u2 (u2 (u2 dt 84 ((2 * (dt 79 11)).toNat) p1) 84 (((2 * (dt 79 11)) + 1).toNat) p2) 79 11 ((dt 79 11) + 1)), rfl, hI30, hF31, ⟨rfl, ⟨by first | exact True.intro | with_reducible assumption | exact unhid (by with_reducible assumption) | rfl | fail | trivial, by exact RXD_1 (by omega) (by first | rfl | fail) (by (rw [show 2 * (dt 79 11).toNat = (2 * (dt 79 11)).toNat by first | with_reducible assumption | exact unhid (by with_reducible assumption) | omega]; (repeat (first | rw [u2_eq] | rw [u2_ne (by omega)])))) (by (rw [show 2 * (dt 79 11).toNat + 1 = ((2 * (dt 79 11)) + 1).toNat by first | with_reducible assumption | exact unhid (by with_reducible assumption) | omega]; (repeat (first | rw [u2_eq] | rw [u2_ne (by omega)])))) (fun j hj => by (repeat rw [u2_ne (by omega)])) h_p1, by first | exact True.intro | with_reducible assumption | exact unhid (by with_reducible assumption) | rfl | fail | trivial, by first | exact True.intro | with_reducible assumption | exact unhid (by with_reducible assumption) | rfl | fail | trivial, by first | exact True.intro | with_reducible assumption | exact unhid (by with_reducible assumption) | rfl | fail | trivial, by first | exact True.intro | with_reducible assumption | exact unhid (by with_reducible assumption) | rfl | fail | trivial, by first | exact True.intro | with_reducible assumption | exact unhid (by with_reducible assumption) | rfl | fail | trivial, by first | exact True.intro | with_reducible assumption | exact unhid (by with_reducible assumption) | rfl | fail | trivial, by first | exact True.intro | with_reducible assumption | exact unhid (by with_reducible assumption) | rfl | fail | trivial, by first | exact True.intro | with_reducible assumption | exact unhid (by with_reducible assumption) | rfl | fail | trivial, by first | exact True.intro | with_reducible assumption | exact unhid (by with_reducible assumption) | rfl | fail | trivial, by first | exact True.intro | with_reducible assumption | exact unhid (by with_reducible assumption) | rfl | fail | trivial⟩⟩⟩
set_option maxHeartbeats 1500000 in
set_option maxRecDepth 20000 in
theorem sp_X6_unit_g (L : Nat) (xs : Nat → Int32) (sio : Option Nat) (d : Nat) (dt : Nat → Nat → Int) (hI : InvC dt) (b : Nat → Int) (n t i : Nat) (hbb : mB (dt 85) (dt 79 12) = b) (hnn : dt 79 12 = (n : Int)) (hz : KZ (KF 1 b n) t) (ht : t ≤ 500) (hc : CUR 1 b n dt i) (hi : i ≤ t) (hn5 : n ≤ 500)  (h_p0 : dt 79 9 = 1) (h_p1 : dt 79 11 ≤ dt 79 15) : GO (am_XX L xs sio) (d + 7) 167 0 [some (.inr (.inr (some 79))), none] [] (SH, dt) (fun r w2 => ∃ dt2 : Nat → Nat → Int, w2 = (SH, dt2) ∧ InvC dt2 ∧ Fr [79, 84] dt dt2 ∧ ((r = some (.inl 0) ∧ (RSX 1 b n i dt2 0 ((gU (KF 1 b n)) i)) ∧ (dt2 79 2 = dt 79 2) ∧ (dt2 79 9 = dt 79 9) ∧ (dt2 79 10 = dt 79 10) ∧ (dt2 79 12 = dt 79 12)) ∨ (r = some (.inl 1) ∧ (RSX 1 b n i dt2 1 ((gU (KF 1 b n)) i)) ∧ (dt 79 15 + dt2 79 11 ≤ dt2 79 15 + dt 79 11) ∧ (dt 79 11 + 1 ≤ dt2 79 11) ∧ (dt2 79 15 ≤ 500) ∧ (RXD dt dt2 ((eU (KF 1 b n) (VF b n)) i)) ∧ (dt2 79 2 = dt 79 2) ∧ (dt2 79 9 = dt 79 9) ∧ (dt2 79 10 = dt 79 10) ∧ (dt2 79 12 = dt 79 12) ∧ (dt2 79 17 = dt 79 17) ∧ (dt2 79 20 = dt 79 20)))) := by
  have hF : Fr [79, 84] dt dt := Fr_refl
  have r1 : 0 ≤ dt 79 15 ∧ dt 79 15 ≤ 500 := InvC_get hI 79 15 rfl rfl
  have r2 : 0 ≤ dt 79 11 ∧ dt 79 11 ≤ 510 := InvC_get hI 79 11 rfl rfl
  have r3 : 0 ≤ dt 79 10 ∧ dt 79 10 ≤ 24 := InvC_get hI 79 10 rfl rfl
  have cr0 := hid (CUR_R hc (.inr rfl))
  have cd0 := CUR_d (hc)
  have cb0 := hid (CUR_b hc)
  have cv0 := hid (CUR_v hc)
  have ck0 := hid (KZ_lt (i := i) hz)
  have c10 := hc.1
  have r4 : (-2147483648) ≤ dt 79 14 ∧ dt 79 14 ≤ 2147483647 := InvC_get hI 79 14 rfl rfl
  refine go_toq PM167 (k := 4) (pc' := 8) (L' := [some (.inr (.inr (some 79))), none]) (st' := [.inl 46, .inl 41, .inl (dt 79 14)]) (w' := (SH, dt)) rfl ?_
  have u1_ := hid (And.intro (unhid cr0) (And.intro (unhid cb0) (And.intro (unhid cv0) (unhid ck0))))
  refine go_callq PM167 PM146 (Q' := _) rfl rfl rfl rfl (sp_X6_isIn L xs sio (d + 6) dt hI  (dt 79 14) (by first | exact bnd r4 (by decide) (by decide) | exact ⟨by fail, by fail⟩) 41 ⟨by decide, by decide⟩ 46 ⟨by decide, by decide⟩ ) ?_
  rintro _ _ ⟨rfl, h5⟩
  refine ⟨rfl, ?_⟩
  rcases h5 with ⟨rfl, h5⟩ | ⟨rfl, h5⟩
  · skip
    refine go_ifq PM167 (k := 4) (p1 := 30) (p2 := 20) (L' := [some (.inr (.inr (some 79))), some (.inl 1)]) (st' := []) (w' := (SH, dt)) rfl (c_eq (a := dt 79 14) (b := 2) (by first | exact bnd r4 (by decide) (by decide) | exact ⟨by fail, by fail⟩) ⟨by decide, by decide⟩) (fun c6 => ?_) (fun c6 => ?_)
    · exfalso; omega
    · skip
      replace c6 := hid c6
      have r7 : 0 ≤ dt 79 16 ∧ dt 79 16 ≤ 9999 := InvC_get hI 79 16 rfl rfl
      refine go_toq PM167 (k := 12) (pc' := 50) (L' := [some (.inr (.inr (some 79))), some (.inl 1)]) (st' := [.inl (dt 79 16), .inl ((dt 79 14) - 40), .inr (.inr (some 79))]) (w' := (SH, dt)) rfl ?_
      have u2_ := hid (And.intro (unhid cr0) (And.intro (unhid cb0) (And.intro (unhid cv0) (And.intro (unhid ck0) (unhid c6)))))
      refine go_callq PM167 PM163 (Q' := _) rfl rfl rfl rfl (sp_X6_lay_g L xs sio (d + 6) dt hI  ((dt 79 14) - 40) ⟨by omega, by omega⟩ (dt 79 16) (by first | exact bnd r7 (by decide) (by decide) | exact ⟨by fail, by fail⟩) (by first | exact True.intro | with_reducible assumption | exact unhid (by with_reducible assumption) | rfl | omega | trivial) (by first | exact True.intro | with_reducible assumption | exact unhid (by with_reducible assumption) | rfl | omega | trivial)) ?_
      rintro _ _ ⟨dt9, rfl, hI10, hF11, h8⟩
      refine ⟨rfl, ?_⟩
      have hF12 : Fr [79, 84] dt dt9 := Fr_tr hF hF11 (by decide)
      rcases h8 with ⟨rfl, h8⟩
      obtain ⟨h8_0, h8_1, h8_2, h8_3, h8_4, h8_5, h8_6, h8_7, h8_8, h8_9, h8_10, h8_11⟩ := h8
      have w13 : dt9 79 2 = dt 79 2 := h8_2
      have w14 : dt9 79 9 = dt 79 9 := h8_3
      have w15 : dt9 79 10 = dt 79 10 := h8_4
      have w16 : dt9 79 12 = dt 79 12 := h8_5
      have w17 : dt9 79 13 = dt 79 13 := h8_6
      have w18 : dt9 79 14 = dt 79 14 := h8_7
      have w19 : dt9 79 15 = dt 79 15 := h8_8
      have w20 : dt9 79 16 = dt 79 16 := h8_9
      have w21 : dt9 79 17 = dt 79 17 := h8_10
      have w22 : dt9 79 20 = dt 79 20 := h8_11
      have Q23 : RQ (eU (KF 1 b n) (VF b n)) eNl dt dt9 i i := RQ_st RQ_0 (by omega) h8_1 (by show eU _ _ i = stx ((dt 79 14) - 40) (dt 79 16) ++ []; unfold eU stx; first | (rw [if_pos (by fail), if_pos (by fail), show (dt 79 16) = VF b n i by first | with_reducible assumption | exact unhid (by with_reducible assumption) | fail]; rfl) | (rw [if_neg (by (have z_ := unhid cr0; omega)), if_neg (by omega), if_pos (by omega), show 995 - (KF 1 b n) i = -10 - ((dt 79 14) - 40) by first | with_reducible assumption | exact unhid (by with_reducible assumption) | (have z_ := unhid cr0; omega)]; rfl))
      have hc24 : CUR 1 b n dt9 i := CUR_sm hc (by first | with_reducible assumption | exact unhid (by with_reducible assumption) | rfl | fail) (by first | with_reducible assumption | exact unhid (by with_reducible assumption) | rfl | fail) (by first | with_reducible assumption | exact unhid (by with_reducible assumption) | rfl | fail) (by first | with_reducible assumption | exact unhid (by with_reducible assumption) | rfl | fail)
      clear h8_2 h8_3 h8_4 h8_5 h8_6 h8_7 h8_8 h8_9 h8_10 h8_11
      refine go_toq PM167 (k := 1) (pc' := 54) (L' := [some (.inr (.inr (some 79))), some (.inl 1)]) (st' := [.inr (.inr (some 79))]) (w' := (SH, dt9)) rfl ?_
      refine go_callq PM167 PM159 (Q' := _) rfl rfl rfl rfl (sp_X6_next0_p1 L xs sio (d + 0) dt9 hI10   (by first | exact True.intro | with_reducible assumption | exact unhid (by with_reducible assumption) | rfl | omega | trivial) (by first | exact True.intro | with_reducible assumption | exact unhid (by with_reducible assumption) | rfl | omega | trivial)) ?_
      rintro _ _ ⟨dt26, rfl, hI27, hF28, h25⟩
      refine ⟨rfl, ?_⟩
      have hF29 : Fr [79, 84] dt dt26 := Fr_tr hF12 hF28 (by decide)
      rcases h25 with ⟨rfl, h25⟩
      obtain ⟨h25_0, h25_1, h25_2, h25_3, h25_4, h25_5, h25_6, h25_7, h25_8⟩ := h25
      have w30 : dt26 79 2 = dt 79 2 := h25_2.trans w13
      have w31 : dt26 79 9 = dt 79 9 := h25_3.trans w14
      have w32 : dt26 79 10 = dt 79 10 := h25_4.trans w15
      have w33 : dt26 79 11 = dt9 79 11 := h25_5
      have w34 : dt26 79 12 = dt 79 12 := h25_6.trans w16
      have w35 : dt26 79 17 = dt 79 17 := h25_7.trans w21
      have w36 : dt26 79 20 = dt 79 20 := h25_8.trans w22
      have hq37 := h25_0
      rw [show dt9 85 = dt 85 from funext (hF12 85 (by decide)), show dt9 79 12 = dt 79 12 by first | with_reducible assumption | exact unhid (by with_reducible assumption) | fail, hbb, show (dt 79 12).toNat = n from (congrArg Int.toNat hnn).trans (Int.toNat_natCast n)] at hq37
      have hc38 : CUR 1 b n dt26 (i + 1) := CUR_n hc24 hq37
      have hi39 : i + 1 ≤ t := by (have z_ := unhid u2_; omega)
      have av40 : dt9 79 15 + 1 ≤ dt9 79 13 := by (have z_ := unhid u2_; omega)
      have Q41 : RQ (eU (KF 1 b n) (VF b n)) eNl dt dt26 i (i + 1) := RQ_st Q23 (by omega) (RXD_sm (by omega) (fun j => hF28 84 (by decide) j)) (by rfl)
      have hp42 : (gU (KF 1 b n)) i = gOk (i + 1) := (rfl : (gU (KF 1 b n)) i = (gU (KF 1 b n)) i).trans (by show gU _ _ = _; unfold gU; rw [if_pos (by (have z_ := unhid u2_; omega))]; rfl)
      clear cr0 cb0 cd0 cv0 ck0
      have cr43 := hid (CUR_R hc38 (.inr rfl))
      have cd44 := CUR_d (hc38)
      have cb44 := hid (CUR_b hc38)
      have cv45 := hid (CUR_v hc38)
      have ck46 := hid (KZ_lt (i := (i + 1)) hz)
      have c147 := (hc38).1
      have ci48 := hi39
      clear h25_2 w13 h25_3 w14 h25_4 h25_5 h25_6 w16 h25_7 w21 h25_8 w22
      refine go_retq PM167 (k := 1) (r := some (.inl 1)) (w1 := (SH, dt26)) rfl ?_
      exact ⟨dt26, rfl, hI27, hF29, (Or.inr ⟨rfl, ⟨by exact RSX_ok (hp42.trans (by rfl)) hc38, by first | exact True.intro | with_reducible assumption | exact unhid (by with_reducible assumption) | rfl | omega | trivial, by first | exact True.intro | with_reducible assumption | exact unhid (by with_reducible assumption) | rfl | omega | trivial, by exact (InvC_get (by assumption) 79 15 rfl rfl).2, by exact RQ_e Q41, by first | exact True.intro | with_reducible assumption | exact unhid (by with_reducible assumption) | rfl | fail | trivial, by first | exact True.intro | with_reducible assumption | exact unhid (by with_reducible assumption) | rfl | fail | trivial, by first | exact True.intro | with_reducible assumption | exact unhid (by with_reducible assumption) | rfl | fail | trivial, by first | exact True.intro | with_reducible assumption | exact unhid (by with_reducible assumption) | rfl | fail | trivial, by first | exact True.intro | with_reducible assumption | exact unhid (by with_reducible assumption) | rfl | fail | trivial, by first | exact True.intro | with_reducible assumption | exact unhid (by with_reducible assumption) | rfl | fail | trivial⟩⟩)⟩
  · skip
    refine go_ifq PM167 (k := 4) (p1 := 30) (p2 := 20) (L' := [some (.inr (.inr (some 79))), some (.inl 0)]) (st' := []) (w' := (SH, dt)) rfl (c_eq (a := dt 79 14) (b := 2) (by first | exact bnd r4 (by decide) (by decide) | exact ⟨by fail, by fail⟩) ⟨by decide, by decide⟩) (fun c49 => ?_) (fun c49 => ?_)
    · skip
      have r50 : 0 ≤ dt 79 16 ∧ dt 79 16 ≤ 9999 := InvC_get hI 79 16 rfl rfl
      refine go_toq PM167 (k := 6) (pc' := 50) (L' := [some (.inr (.inr (some 79))), some (.inl 0)]) (st' := [.inl (dt 79 16), .inl 0, .inr (.inr (some 79))]) (w' := (SH, dt)) rfl ?_
      refine go_callq PM167 PM163 (Q' := _) rfl rfl rfl rfl (sp_X6_lay_g L xs sio (d + 6) dt hI  0 ⟨by decide, by decide⟩ (dt 79 16) (by first | exact bnd r50 (by decide) (by decide) | exact ⟨by fail, by fail⟩) (by first | exact True.intro | with_reducible assumption | exact unhid (by with_reducible assumption) | rfl | omega | trivial) (by first | exact True.intro | with_reducible assumption | exact unhid (by with_reducible assumption) | rfl | omega | trivial)) ?_
      rintro _ _ ⟨dt52, rfl, hI53, hF54, h51⟩
      refine ⟨rfl, ?_⟩
      have hF55 : Fr [79, 84] dt dt52 := Fr_tr hF hF54 (by decide)
      rcases h51 with ⟨rfl, h51⟩
      obtain ⟨h51_0, h51_1, h51_2, h51_3, h51_4, h51_5, h51_6, h51_7, h51_8, h51_9, h51_10, h51_11⟩ := h51
      have w56 : dt52 79 2 = dt 79 2 := h51_2
      have w57 : dt52 79 9 = dt 79 9 := h51_3
      have w58 : dt52 79 10 = dt 79 10 := h51_4
      have w59 : dt52 79 12 = dt 79 12 := h51_5
      have w60 : dt52 79 13 = dt 79 13 := h51_6
      have w61 : dt52 79 14 = dt 79 14 := h51_7
      have w62 : dt52 79 15 = dt 79 15 := h51_8
      have w63 : dt52 79 16 = dt 79 16 := h51_9
      have w64 : dt52 79 17 = dt 79 17 := h51_10
      have w65 : dt52 79 20 = dt 79 20 := h51_11
      have Q66 : RQ (eU (KF 1 b n) (VF b n)) eNl dt dt52 i i := RQ_st RQ_0 (by omega) h51_1 (by show eU _ _ i = stx 0 (dt 79 16) ++ []; unfold eU stx; first | (rw [if_pos (by (have z_ := unhid cr0; omega)), if_pos (by omega), show (dt 79 16) = VF b n i by first | with_reducible assumption | exact unhid (by with_reducible assumption) | (have z_ := unhid u1_; omega)]; rfl) | (rw [if_neg (by fail), if_neg (by fail), if_pos (by fail), show 995 - (KF 1 b n) i = -10 - 0 by first | with_reducible assumption | exact unhid (by with_reducible assumption) | fail]; rfl))
      have hc67 : CUR 1 b n dt52 i := CUR_sm hc (by first | with_reducible assumption | exact unhid (by with_reducible assumption) | rfl | fail) (by first | with_reducible assumption | exact unhid (by with_reducible assumption) | rfl | fail) (by first | with_reducible assumption | exact unhid (by with_reducible assumption) | rfl | fail) (by first | with_reducible assumption | exact unhid (by with_reducible assumption) | rfl | fail)
      clear h51_2 h51_3 h51_4 h51_5 h51_6 h51_7 h51_8 h51_9 h51_10 h51_11
      refine go_toq PM167 (k := 1) (pc' := 54) (L' := [some (.inr (.inr (some 79))), some (.inl 0)]) (st' := [.inr (.inr (some 79))]) (w' := (SH, dt52)) rfl ?_
      refine go_callq PM167 PM159 (Q' := _) rfl rfl rfl rfl (sp_X6_next0_p1 L xs sio (d + 0) dt52 hI53   (by first | exact True.intro | with_reducible assumption | exact unhid (by with_reducible assumption) | rfl | omega | trivial) (by first | exact True.intro | with_reducible assumption | exact unhid (by with_reducible assumption) | rfl | omega | trivial)) ?_
      rintro _ _ ⟨dt69, rfl, hI70, hF71, h68⟩
      refine ⟨rfl, ?_⟩
      have hF72 : Fr [79, 84] dt dt69 := Fr_tr hF55 hF71 (by decide)
      rcases h68 with ⟨rfl, h68⟩
      obtain ⟨h68_0, h68_1, h68_2, h68_3, h68_4, h68_5, h68_6, h68_7, h68_8⟩ := h68
      have w73 : dt69 79 2 = dt 79 2 := h68_2.trans w56
      have w74 : dt69 79 9 = dt 79 9 := h68_3.trans w57
      have w75 : dt69 79 10 = dt 79 10 := h68_4.trans w58
      have w76 : dt69 79 11 = dt52 79 11 := h68_5
      have w77 : dt69 79 12 = dt 79 12 := h68_6.trans w59
      have w78 : dt69 79 17 = dt 79 17 := h68_7.trans w64
      have w79 : dt69 79 20 = dt 79 20 := h68_8.trans w65
      have hq80 := h68_0
      rw [show dt52 85 = dt 85 from funext (hF55 85 (by decide)), show dt52 79 12 = dt 79 12 by first | with_reducible assumption | exact unhid (by with_reducible assumption) | fail, hbb, show (dt 79 12).toNat = n from (congrArg Int.toNat hnn).trans (Int.toNat_natCast n)] at hq80
      have hc81 : CUR 1 b n dt69 (i + 1) := CUR_n hc67 hq80
      have hi82 : i + 1 ≤ t := by (have z_ := unhid u1_; omega)
      have av83 : dt52 79 15 + 1 ≤ dt52 79 13 := by (have z_ := unhid u1_; omega)
      have Q84 : RQ (eU (KF 1 b n) (VF b n)) eNl dt dt69 i (i + 1) := RQ_st Q66 (by omega) (RXD_sm (by omega) (fun j => hF71 84 (by decide) j)) (by rfl)
      have hp85 : (gU (KF 1 b n)) i = gOk (i + 1) := (rfl : (gU (KF 1 b n)) i = (gU (KF 1 b n)) i).trans (by show gU _ _ = _; unfold gU; rw [if_pos (by (have z_ := unhid u1_; omega))]; rfl)
      clear cr0 cb0 cd0 cv0 ck0
      have cr86 := hid (CUR_R hc81 (.inr rfl))
      have cd87 := CUR_d (hc81)
      have cb87 := hid (CUR_b hc81)
      have cv88 := hid (CUR_v hc81)
      have ck89 := hid (KZ_lt (i := (i + 1)) hz)
      have c190 := (hc81).1
      have ci91 := hi82
      clear h68_2 w56 h68_3 w57 h68_4 h68_5 h68_6 w59 h68_7 w64 h68_8 w65
      refine go_retq PM167 (k := 1) (r := some (.inl 1)) (w1 := (SH, dt69)) rfl ?_
      exact ⟨dt69, rfl, hI70, hF72, (Or.inr ⟨rfl, ⟨by exact RSX_ok (hp85.trans (by rfl)) hc81, by first | exact True.intro | with_reducible assumption | exact unhid (by with_reducible assumption) | rfl | omega | trivial, by first | exact True.intro | with_reducible assumption | exact unhid (by with_reducible assumption) | rfl | omega | trivial, by exact (InvC_get (by assumption) 79 15 rfl rfl).2, by exact RQ_e Q84, by first | exact True.intro | with_reducible assumption | exact unhid (by with_reducible assumption) | rfl | fail | trivial, by first | exact True.intro | with_reducible assumption | exact unhid (by with_reducible assumption) | rfl | fail | trivial, by first | exact True.intro | with_reducible assumption | exact unhid (by with_reducible assumption) | rfl | fail | trivial, by first | exact True.intro | with_reducible assumption | exact unhid (by with_reducible assumption) | rfl | fail | trivial, by first | exact True.intro | with_reducible assumption | exact unhid (by with_reducible assumption) | rfl | fail | trivial, by first | exact True.intro | with_reducible assumption | exact unhid (by with_reducible assumption) | rfl | fail | trivial⟩⟩)⟩
    · skip
      replace c49 := hid c49
      refine go_toq PM167 (k := 4) (pc' := 26) (L' := [some (.inr (.inr (some 79))), some (.inl 0)]) (st' := [.inl 1, .inr (.inr (some 79))]) (w' := (SH, dt)) rfl ?_
      refine go_callq PM167 PM160 (Q' := _) rfl rfl rfl rfl (sp_X6_bad_g L xs sio (d + 6) dt hI  1 ⟨by decide, by decide⟩ ) ?_
      rintro _ _ ⟨dt93, rfl, hI94, hF95, h92⟩
      refine ⟨rfl, ?_⟩
      have hF96 : Fr [79, 84] dt dt93 := Fr_tr hF hF95 (by decide)
      rcases h92 with ⟨rfl, h92⟩
      obtain ⟨h92_0, h92_1, h92_2, h92_3, h92_4, h92_5, h92_6, h92_7, h92_8, h92_9, h92_10, h92_11⟩ := h92
      have w97 : dt93 79 2 = dt 79 2 := h92_2
      have w98 : dt93 79 9 = dt 79 9 := h92_3
      have w99 : dt93 79 10 = dt 79 10 := h92_4
      have w100 : dt93 79 11 = dt 79 11 := h92_5
      have w101 : dt93 79 12 = dt 79 12 := h92_6
      have w102 : dt93 79 13 = dt 79 13 := h92_7
      have w103 : dt93 79 14 = dt 79 14 := h92_8
      have w104 : dt93 79 15 = dt 79 15 := h92_9
      have w105 : dt93 79 16 = dt 79 16 := h92_10
      have w106 : dt93 79 20 = dt 79 20 := h92_11
      have u5_ := hid (And.intro (unhid cr0) (And.intro (unhid cb0) (And.intro (unhid cv0) (And.intro (unhid ck0) (unhid c49)))))
      have hc107 : CUR 1 b n dt93 i := CUR_sm hc (by first | with_reducible assumption | exact unhid (by with_reducible assumption) | rfl | fail) (by first | with_reducible assumption | exact unhid (by with_reducible assumption) | rfl | fail) (by first | with_reducible assumption | exact unhid (by with_reducible assumption) | rfl | fail) (by first | with_reducible assumption | exact unhid (by with_reducible assumption) | rfl | fail)
      clear h92_2 h92_3 h92_4 h92_5 h92_6 h92_7 h92_8 h92_9 h92_10 h92_11
      refine go_retq PM167 (k := 0) (r := some (.inl 0)) (w1 := (SH, dt93)) rfl ?_
      exact ⟨dt93, rfl, hI94, hF96, (Or.inl ⟨rfl, ⟨by first | exact RSX_f hI hI (by first | rfl | with_reducible assumption | exact unhid (by with_reducible assumption) | fail) (by first | rfl | with_reducible assumption | exact unhid (by with_reducible assumption) | fail) | exact RSX_no (k := 1) (j := i) ((rfl : (gU (KF 1 b n)) i = (gU (KF 1 b n)) i).trans (by show gU _ _ = _; unfold gU; rw [if_neg (by (have z_ := unhid u5_; omega))])) (by decide) (by omega) (by show _ = ((TP b n i : Nat) : Int); omega), by first | exact True.intro | with_reducible assumption | exact unhid (by with_reducible assumption) | rfl | fail | trivial, by first | exact True.intro | with_reducible assumption | exact unhid (by with_reducible assumption) | rfl | fail | trivial, by first | exact True.intro | with_reducible assumption | exact unhid (by with_reducible assumption) | rfl | fail | trivial, by first | exact True.intro | with_reducible assumption | exact unhid (by with_reducible assumption) | rfl | fail | trivial⟩⟩)⟩
