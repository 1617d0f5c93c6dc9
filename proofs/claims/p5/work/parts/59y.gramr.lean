set_option maxRecDepth 20000 in
theorem sp_X6_lay_g (L : Nat) (xs : Nat → Int32) (sio : Option Nat) (d : Nat) (dt : Nat → Nat → Int) (hI : InvC dt)  (p1 : Int) (h_p1 : 0 ≤ p1 ∧ p1 ≤ 16) (p2 : Int) (h_p2 : (-2147483648) ≤ p2 ∧ p2 ≤ 2147483647) (h_p0 : dt 79 11 ≤ 509) : GO (am_XX L xs sio) (d) 163 0 [some (.inr (.inr (some 79))), some (.inl p1), some (.inl p2)] [] (SH, dt) (fun r w2 => ∃ dt2 : Nat → Nat → Int, w2 = (SH, dt2) ∧ InvC dt2 ∧ Fr [79, 84] dt dt2 ∧ ((r = none ∧ (dt2 79 11 = dt 79 11 + 1) ∧ (dt2 79 2 = dt 79 2) ∧ (dt2 79 9 = dt 79 9) ∧ (dt2 79 10 = dt 79 10) ∧ (dt2 79 12 = dt 79 12) ∧ (dt2 79 13 = dt 79 13) ∧ (dt2 79 14 = dt 79 14) ∧ (dt2 79 15 = dt 79 15) ∧ (dt2 79 16 = dt 79 16) ∧ (dt2 79 17 = dt 79 17) ∧ (dt2 79 20 = dt 79 20)))) := by
  have hF : Fr [79, 84] dt dt := Fr_refl
  have r1 : 0 ≤ dt 79 11 ∧ dt 79 11 ≤ 510 := InvC_get hI 79 11 rfl rfl
  refine go_to (k := 7) (pc' := 11) (L' := [some (.inr (.inr (some 79))), some (.inl p1), some (.inl p2)]) (st' := [.inl p1, .inl (2 * (dt 79 11)), .inr (.inr (some 84))]) (w' := (SH, dt)) (fun _ => rfl) ?_
  have hI2 : InvC (u2 dt 84 ((2 * (dt 79 11)).toNat) p1) := InvC_u2 hI (lo := -2147483648) (hi := 2147483647) rfl rfl rfl (by omega) (by omega)
  have hF3 : Fr [79, 84] dt (u2 dt 84 ((2 * (dt 79 11)).toNat) p1) := Fr_u2 hF (by decide)
  have w4 : (u2 dt 84 ((2 * (dt 79 11)).toNat) p1) 79 2 = dt 79 2 := rfl
  have w5 : (u2 dt 84 ((2 * (dt 79 11)).toNat) p1) 79 9 = dt 79 9 := rfl
  have w6 : (u2 dt 84 ((2 * (dt 79 11)).toNat) p1) 79 10 = dt 79 10 := rfl
  have w7 : (u2 dt 84 ((2 * (dt 79 11)).toNat) p1) 79 11 = dt 79 11 := rfl
  have w8 : (u2 dt 84 ((2 * (dt 79 11)).toNat) p1) 79 12 = dt 79 12 := rfl
  have w9 : (u2 dt 84 ((2 * (dt 79 11)).toNat) p1) 79 13 = dt 79 13 := rfl
  have w10 : (u2 dt 84 ((2 * (dt 79 11)).toNat) p1) 79 14 = dt 79 14 := rfl
  have w11 : (u2 dt 84 ((2 * (dt 79 11)).toNat) p1) 79 15 = dt 79 15 := rfl
  have w12 : (u2 dt 84 ((2 * (dt 79 11)).toNat) p1) 79 16 = dt 79 16 := rfl
  have w13 : (u2 dt 84 ((2 * (dt 79 11)).toNat) p1) 79 17 = dt 79 17 := rfl
  have w14 : (u2 dt 84 ((2 * (dt 79 11)).toNat) p1) 79 18 = dt 79 18 := rfl
  have w15 : (u2 dt 84 ((2 * (dt 79 11)).toNat) p1) 79 20 = dt 79 20 := rfl
  refine go_smp (L' := [some (.inr (.inr (some 79))), some (.inl p1), some (.inl p2)]) (st' := []) (w' := (SH, (u2 dt 84 ((2 * (dt 79 11)).toNat) p1))) rfl rfl (s_iast (n := 1020) rfl ⟨by omega, by omega⟩ ⟨by omega, by omega⟩) ?_
  refine go_to (k := 9) (pc' := 25) (L' := [some (.inr (.inr (some 79))), some (.inl p1), some (.inl p2)]) (st' := [.inl p2, .inl ((2 * (dt 79 11)) + 1), .inr (.inr (some 84))]) (w' := (SH, (u2 dt 84 ((2 * (dt 79 11)).toNat) p1))) (fun _ => rfl) ?_
  have hI16 : InvC (u2 (u2 dt 84 ((2 * (dt 79 11)).toNat) p1) 84 (((2 * (dt 79 11)) + 1).toNat) p2) := InvC_u2 hI2 (lo := -2147483648) (hi := 2147483647) rfl rfl rfl (by omega) (by omega)
  have hF17 : Fr [79, 84] dt (u2 (u2 dt 84 ((2 * (dt 79 11)).toNat) p1) 84 (((2 * (dt 79 11)) + 1).toNat) p2) := Fr_u2 hF3 (by decide)
  have w18 : (u2 (u2 dt 84 ((2 * (dt 79 11)).toNat) p1) 84 (((2 * (dt 79 11)) + 1).toNat) p2) 79 2 = (u2 dt 84 ((2 * (dt 79 11)).toNat) p1) 79 2 := rfl
  have w19 : (u2 (u2 dt 84 ((2 * (dt 79 11)).toNat) p1) 84 (((2 * (dt 79 11)) + 1).toNat) p2) 79 9 = (u2 dt 84 ((2 * (dt 79 11)).toNat) p1) 79 9 := rfl
  have w20 : (u2 (u2 dt 84 ((2 * (dt 79 11)).toNat) p1) 84 (((2 * (dt 79 11)) + 1).toNat) p2) 79 10 = (u2 dt 84 ((2 * (dt 79 11)).toNat) p1) 79 10 := rfl
  have w21 : (u2 (u2 dt 84 ((2 * (dt 79 11)).toNat) p1) 84 (((2 * (dt 79 11)) + 1).toNat) p2) 79 11 = (u2 dt 84 ((2 * (dt 79 11)).toNat) p1) 79 11 := rfl
  have w22 : (u2 (u2 dt 84 ((2 * (dt 79 11)).toNat) p1) 84 (((2 * (dt 79 11)) + 1).toNat) p2) 79 12 = (u2 dt 84 ((2 * (dt 79 11)).toNat) p1) 79 12 := rfl
  have w23 : (u2 (u2 dt 84 ((2 * (dt 79 11)).toNat) p1) 84 (((2 * (dt 79 11)) + 1).toNat) p2) 79 13 = (u2 dt 84 ((2 * (dt 79 11)).toNat) p1) 79 13 := rfl
  have w24 : (u2 (u2 dt 84 ((2 * (dt 79 11)).toNat) p1) 84 (((2 * (dt 79 11)) + 1).toNat) p2) 79 14 = (u2 dt 84 ((2 * (dt 79 11)).toNat) p1) 79 14 := rfl
  have w25 : (u2 (u2 dt 84 ((2 * (dt 79 11)).toNat) p1) 84 (((2 * (dt 79 11)) + 1).toNat) p2) 79 15 = (u2 dt 84 ((2 * (dt 79 11)).toNat) p1) 79 15 := rfl
  have w26 : (u2 (u2 dt 84 ((2 * (dt 79 11)).toNat) p1) 84 (((2 * (dt 79 11)) + 1).toNat) p2) 79 16 = (u2 dt 84 ((2 * (dt 79 11)).toNat) p1) 79 16 := rfl
  have w27 : (u2 (u2 dt 84 ((2 * (dt 79 11)).toNat) p1) 84 (((2 * (dt 79 11)) + 1).toNat) p2) 79 17 = (u2 dt 84 ((2 * (dt 79 11)).toNat) p1) 79 17 := rfl
  have w28 : (u2 (u2 dt 84 ((2 * (dt 79 11)).toNat) p1) 84 (((2 * (dt 79 11)) + 1).toNat) p2) 79 18 = (u2 dt 84 ((2 * (dt 79 11)).toNat) p1) 79 18 := rfl
  have w29 : (u2 (u2 dt 84 ((2 * (dt 79 11)).toNat) p1) 84 (((2 * (dt 79 11)) + 1).toNat) p2) 79 20 = (u2 dt 84 ((2 * (dt 79 11)).toNat) p1) 79 20 := rfl
  refine go_smp (L' := [some (.inr (.inr (some 79))), some (.inl p1), some (.inl p2)]) (st' := []) (w' := (SH, (u2 (u2 dt 84 ((2 * (dt 79 11)).toNat) p1) 84 (((2 * (dt 79 11)) + 1).toNat) p2))) rfl rfl (s_iast (n := 1020) rfl ⟨by omega, by omega⟩ ⟨by omega, by omega⟩) ?_
  refine go_to (k := 5) (pc' := 33) (L' := [some (.inr (.inr (some 79))), some (.inl p1), some (.inl p2)]) (st' := [.inl ((dt 79 11) + 1), .inr (.inr (some 79))]) (w' := (SH, (u2 (u2 dt 84 ((2 * (dt 79 11)).toNat) p1) 84 (((2 * (dt 79 11)) + 1).toNat) p2))) (fun _ => rfl) ?_
  have hI30 : InvC (u2 (u2 (u2 dt 84 ((2 * (dt 79 11)).toNat) p1) 84 (((2 * (dt 79 11)) + 1).toNat) p2) 79 11 ((dt 79 11) + 1)) := InvC_u2 hI16 (lo := 0) (hi := 510) rfl rfl rfl (by omega) (by omega)
  have hF31 : Fr [79, 84] dt (u2 (u2 (u2 dt 84 ((2 * (dt 79 11)).toNat) p1) 84 (((2 * (dt 79 11)) + 1).toNat) p2) 79 11 ((dt 79 11) + 1)) := Fr_u2 hF17 (by decide)
  have w32 : (u2 (u2 (u2 dt 84 ((2 * (dt 79 11)).toNat) p1) 84 (((2 * (dt 79 11)) + 1).toNat) p2) 79 11 ((dt 79 11) + 1)) 79 2 = (u2 (u2 dt 84 ((2 * (dt 79 11)).toNat) p1) 84 (((2 * (dt 79 11)) + 1).toNat) p2) 79 2 := rfl
  have w33 : (u2 (u2 (u2 dt 84 ((2 * (dt 79 11)).toNat) p1) 84 (((2 * (dt 79 11)) + 1).toNat) p2) 79 11 ((dt 79 11) + 1)) 79 9 = (u2 (u2 dt 84 ((2 * (dt 79 11)).toNat) p1) 84 (((2 * (dt 79 11)) + 1).toNat) p2) 79 9 := rfl
  have w34 : (u2 (u2 (u2 dt 84 ((2 * (dt 79 11)).toNat) p1) 84 (((2 * (dt 79 11)) + 1).toNat) p2) 79 11 ((dt 79 11) + 1)) 79 10 = (u2 (u2 dt 84 ((2 * (dt 79 11)).toNat) p1) 84 (((2 * (dt 79 11)) + 1).toNat) p2) 79 10 := rfl
  have w35 : (u2 (u2 (u2 dt 84 ((2 * (dt 79 11)).toNat) p1) 84 (((2 * (dt 79 11)) + 1).toNat) p2) 79 11 ((dt 79 11) + 1)) 79 11 = (dt 79 11) + 1 := rfl
  have w36 : (u2 (u2 (u2 dt 84 ((2 * (dt 79 11)).toNat) p1) 84 (((2 * (dt 79 11)) + 1).toNat) p2) 79 11 ((dt 79 11) + 1)) 79 12 = (u2 (u2 dt 84 ((2 * (dt 79 11)).toNat) p1) 84 (((2 * (dt 79 11)) + 1).toNat) p2) 79 12 := rfl
  have w37 : (u2 (u2 (u2 dt 84 ((2 * (dt 79 11)).toNat) p1) 84 (((2 * (dt 79 11)) + 1).toNat) p2) 79 11 ((dt 79 11) + 1)) 79 13 = (u2 (u2 dt 84 ((2 * (dt 79 11)).toNat) p1) 84 (((2 * (dt 79 11)) + 1).toNat) p2) 79 13 := rfl
  have w38 : (u2 (u2 (u2 dt 84 ((2 * (dt 79 11)).toNat) p1) 84 (((2 * (dt 79 11)) + 1).toNat) p2) 79 11 ((dt 79 11) + 1)) 79 14 = (u2 (u2 dt 84 ((2 * (dt 79 11)).toNat) p1) 84 (((2 * (dt 79 11)) + 1).toNat) p2) 79 14 := rfl
  have w39 : (u2 (u2 (u2 dt 84 ((2 * (dt 79 11)).toNat) p1) 84 (((2 * (dt 79 11)) + 1).toNat) p2) 79 11 ((dt 79 11) + 1)) 79 15 = (u2 (u2 dt 84 ((2 * (dt 79 11)).toNat) p1) 84 (((2 * (dt 79 11)) + 1).toNat) p2) 79 15 := rfl
  have w40 : (u2 (u2 (u2 dt 84 ((2 * (dt 79 11)).toNat) p1) 84 (((2 * (dt 79 11)) + 1).toNat) p2) 79 11 ((dt 79 11) + 1)) 79 16 = (u2 (u2 dt 84 ((2 * (dt 79 11)).toNat) p1) 84 (((2 * (dt 79 11)) + 1).toNat) p2) 79 16 := rfl
  have w41 : (u2 (u2 (u2 dt 84 ((2 * (dt 79 11)).toNat) p1) 84 (((2 * (dt 79 11)) + 1).toNat) p2) 79 11 ((dt 79 11) + 1)) 79 17 = (u2 (u2 dt 84 ((2 * (dt 79 11)).toNat) p1) 84 (((2 * (dt 79 11)) + 1).toNat) p2) 79 17 := rfl
  have w42 : (u2 (u2 (u2 dt 84 ((2 * (dt 79 11)).toNat) p1) 84 (((2 * (dt 79 11)) + 1).toNat) p2) 79 11 ((dt 79 11) + 1)) 79 18 = (u2 (u2 dt 84 ((2 * (dt 79 11)).toNat) p1) 84 (((2 * (dt 79 11)) + 1).toNat) p2) 79 18 := rfl
  have w43 : (u2 (u2 (u2 dt 84 ((2 * (dt 79 11)).toNat) p1) 84 (((2 * (dt 79 11)) + 1).toNat) p2) 79 11 ((dt 79 11) + 1)) 79 20 = (u2 (u2 dt 84 ((2 * (dt 79 11)).toNat) p1) 84 (((2 * (dt 79 11)) + 1).toNat) p2) 79 20 := rfl
  refine go_smp (L' := [some (.inr (.inr (some 79))), some (.inl p1), some (.inl p2)]) (st' := []) (w' := (SH, (u2 (u2 (u2 dt 84 ((2 * (dt 79 11)).toNat) p1) 84 (((2 * (dt 79 11)) + 1).toNat) p2) 79 11 ((dt 79 11) + 1)))) rfl rfl (s_pf rfl rfl rfl rfl ⟨by omega, by omega⟩) ?_
  refine go_ret (k := 1) (r := none) (w1 := (SH, (u2 (u2 (u2 dt 84 ((2 * (dt 79 11)).toNat) p1) 84 (((2 * (dt 79 11)) + 1).toNat) p2) 79 11 ((dt 79 11) + 1)))) (fun _ => rfl) ?_
  exact ⟨(u2 (u2 (u2 dt 84 ((2 * (dt 79 11)).toNat) p1) 84 (((2 * (dt 79 11)) + 1).toNat) p2) 79 11 ((dt 79 11) + 1)), rfl, hI30, hF31, ⟨rfl, ⟨by first | trivial | omega, by first | trivial | omega, by first | trivial | omega, by first | trivial | omega, by first | trivial | omega, by first | trivial | omega, by first | trivial | omega, by first | trivial | omega, by first | trivial | omega, by first | trivial | omega, by first | trivial | omega⟩⟩⟩
set_option maxHeartbeats 8000000 in
set_option maxRecDepth 20000 in
theorem sp_X6_unit_g (L : Nat) (xs : Nat → Int32) (sio : Option Nat) (d : Nat) (dt : Nat → Nat → Int) (hI : InvC dt) (b : Nat → Int) (n t i : Nat) (hbb : mB (dt 85) (dt 79 12) = b) (hnn : dt 79 12 = (n : Int)) (hz : KZ (KF 1 b n) t) (ht : t ≤ 500) (hc : CUR 1 b n dt i) (hi : i ≤ t) (hn5 : n ≤ 500)  (h_p0 : dt 79 9 = 1) (h_p1 : dt 79 11 ≤ dt 79 15) : GO (am_XX L xs sio) (d + 7) 167 0 [some (.inr (.inr (some 79))), none] [] (SH, dt) (fun r w2 => ∃ dt2 : Nat → Nat → Int, w2 = (SH, dt2) ∧ InvC dt2 ∧ Fr [79, 84] dt dt2 ∧ ((r = some (.inl 0) ∧ (RSX 1 b n i dt2 0 ((gU (KF 1 b n)) i)) ∧ (dt2 79 2 = dt 79 2) ∧ (dt2 79 9 = dt 79 9) ∧ (dt2 79 10 = dt 79 10) ∧ (dt2 79 12 = dt 79 12)) ∨ (r = some (.inl 1) ∧ (RSX 1 b n i dt2 1 ((gU (KF 1 b n)) i)) ∧ (dt 79 15 + dt2 79 11 ≤ dt2 79 15 + dt 79 11) ∧ (dt 79 11 + 1 ≤ dt2 79 11) ∧ (dt2 79 15 ≤ 500) ∧ (dt2 79 2 = dt 79 2) ∧ (dt2 79 9 = dt 79 9) ∧ (dt2 79 10 = dt 79 10) ∧ (dt2 79 12 = dt 79 12) ∧ (dt2 79 17 = dt 79 17) ∧ (dt2 79 20 = dt 79 20)))) := by
  have hF : Fr [79, 84] dt dt := Fr_refl
  have r1 : 0 ≤ dt 79 15 ∧ dt 79 15 ≤ 500 := InvC_get hI 79 15 rfl rfl
  have r2 : 0 ≤ dt 79 11 ∧ dt 79 11 ≤ 510 := InvC_get hI 79 11 rfl rfl
  have r3 : 0 ≤ dt 79 10 ∧ dt 79 10 ≤ 24 := InvC_get hI 79 10 rfl rfl
  have cr0 := CUR_R hc (.inr rfl)
  have cb0 := CUR_b hc
  have cv0 := CUR_v hc
  have ck0 := KZ_lt (i := i) hz
  have c10 := hc.1
  have r4 : (-2147483648) ≤ dt 79 14 ∧ dt 79 14 ≤ 2147483647 := InvC_get hI 79 14 rfl rfl
  refine go_to (k := 4) (pc' := 8) (L' := [some (.inr (.inr (some 79))), none]) (st' := [.inl 46, .inl 41, .inl (dt 79 14)]) (w' := (SH, dt)) (fun _ => rfl) ?_
  refine go_call (Q' := _) rfl rfl rfl rfl rfl (sp_X6_isIn L xs sio (d + 6) dt hI  (dt 79 14) ⟨by omega, by omega⟩ 41 ⟨by omega, by omega⟩ 46 ⟨by omega, by omega⟩ ) ?_
  rintro _ _ ⟨rfl, h5⟩
  refine ⟨rfl, ?_⟩
  rcases h5 with ⟨rfl, h5⟩ | ⟨rfl, h5⟩
  · skip
    refine go_if (k := 5) (p1 := 30) (p2 := 20) (L' := [some (.inr (.inr (some 79))), some (.inl 1)]) (st' := []) (w' := (SH, dt)) (fun _ => rfl) (c_eq (a := dt 79 14) (b := 2) ⟨by omega, by omega⟩ ⟨by omega, by omega⟩) (fun c6 => ?_) (fun c6 => ?_)
    · exfalso; omega
    · skip
      have r7 : 0 ≤ dt 79 16 ∧ dt 79 16 ≤ 9999 := InvC_get hI 79 16 rfl rfl
      refine go_to (k := 12) (pc' := 50) (L' := [some (.inr (.inr (some 79))), some (.inl 1)]) (st' := [.inl (dt 79 16), .inl ((dt 79 14) - 40), .inr (.inr (some 79))]) (w' := (SH, dt)) (fun _ => rfl) ?_
      refine go_call (Q' := _) rfl rfl rfl rfl rfl (sp_X6_lay_g L xs sio (d + 6) dt hI  ((dt 79 14) - 40) ⟨by omega, by omega⟩ (dt 79 16) ⟨by omega, by omega⟩ (by first | trivial | omega)) ?_
      rintro _ _ ⟨dt9, rfl, hI10, hF11, h8⟩
      refine ⟨rfl, ?_⟩
      have hF12 : Fr [79, 84] dt dt9 := Fr_tr hF hF11 (by decide)
      rcases h8 with ⟨rfl, h8⟩
      obtain ⟨h8_0, h8_1, h8_2, h8_3, h8_4, h8_5, h8_6, h8_7, h8_8, h8_9, h8_10⟩ := h8
      have hc13 : CUR 1 b n dt9 i := CUR_sm hc (by omega) (by omega) (by omega) (by omega)
      refine go_to (k := 1) (pc' := 54) (L' := [some (.inr (.inr (some 79))), some (.inl 1)]) (st' := [.inr (.inr (some 79))]) (w' := (SH, dt9)) (fun _ => rfl) ?_
      refine go_call (Q' := _) rfl rfl rfl rfl rfl (sp_X6_next0_p1 L xs sio (d + 0) dt9 hI10   (by first | trivial | omega) (by first | trivial | omega)) ?_
      rintro _ _ ⟨dt15, rfl, hI16, hF17, h14⟩
      refine ⟨rfl, ?_⟩
      have hF18 : Fr [79, 84] dt dt15 := Fr_tr hF12 hF17 (by decide)
      rcases h14 with ⟨rfl, h14⟩
      obtain ⟨h14_0, h14_1, h14_2, h14_3, h14_4, h14_5, h14_6, h14_7, h14_8⟩ := h14
      have hq19 := h14_0
      rw [show dt9 85 = dt 85 from funext (hF12 85 (by decide)), show dt9 79 12 = dt 79 12 by omega, hbb, show (dt 79 12).toNat = n by omega] at hq19
      have hc20 : CUR 1 b n dt15 (i + 1) := CUR_n hc13 hq19
      have hi21 : i + 1 ≤ t := by omega
      have hp22 : (gU (KF 1 b n)) i = gOk (i + 1) := (rfl : (gU (KF 1 b n)) i = (gU (KF 1 b n)) i).trans (by show gU _ _ = _; unfold gU; rw [if_pos (by omega)]; rfl)
      have cr23 := CUR_R hc20 (.inr rfl)
      have cb24 := CUR_b hc20
      have cv25 := CUR_v hc20
      have ck26 := KZ_lt (i := (i + 1)) hz
      have c127 := (hc20).1
      have ci28 := hi21
      refine go_ret (k := 2) (r := some (.inl 1)) (w1 := (SH, dt15)) (fun _ => rfl) ?_
      exact ⟨dt15, rfl, hI16, hF18, (Or.inr ⟨rfl, ⟨by exact RSX_ok (hp22.trans (by rfl)) hc20, by first | trivial | omega, by first | trivial | omega, by exact (InvC_get (by assumption) 79 15 rfl rfl).2, by first | trivial | omega, by first | trivial | omega, by first | trivial | omega, by first | trivial | omega, by first | trivial | omega, by first | trivial | omega⟩⟩)⟩
  · skip
    refine go_if (k := 5) (p1 := 30) (p2 := 20) (L' := [some (.inr (.inr (some 79))), some (.inl 0)]) (st' := []) (w' := (SH, dt)) (fun _ => rfl) (c_eq (a := dt 79 14) (b := 2) ⟨by omega, by omega⟩ ⟨by omega, by omega⟩) (fun c29 => ?_) (fun c29 => ?_)
    · skip
      have r30 : 0 ≤ dt 79 16 ∧ dt 79 16 ≤ 9999 := InvC_get hI 79 16 rfl rfl
      refine go_to (k := 6) (pc' := 50) (L' := [some (.inr (.inr (some 79))), some (.inl 0)]) (st' := [.inl (dt 79 16), .inl 0, .inr (.inr (some 79))]) (w' := (SH, dt)) (fun _ => rfl) ?_
      refine go_call (Q' := _) rfl rfl rfl rfl rfl (sp_X6_lay_g L xs sio (d + 6) dt hI  0 ⟨by omega, by omega⟩ (dt 79 16) ⟨by omega, by omega⟩ (by first | trivial | omega)) ?_
      rintro _ _ ⟨dt32, rfl, hI33, hF34, h31⟩
      refine ⟨rfl, ?_⟩
      have hF35 : Fr [79, 84] dt dt32 := Fr_tr hF hF34 (by decide)
      rcases h31 with ⟨rfl, h31⟩
      obtain ⟨h31_0, h31_1, h31_2, h31_3, h31_4, h31_5, h31_6, h31_7, h31_8, h31_9, h31_10⟩ := h31
      have hc36 : CUR 1 b n dt32 i := CUR_sm hc (by omega) (by omega) (by omega) (by omega)
      refine go_to (k := 1) (pc' := 54) (L' := [some (.inr (.inr (some 79))), some (.inl 0)]) (st' := [.inr (.inr (some 79))]) (w' := (SH, dt32)) (fun _ => rfl) ?_
      refine go_call (Q' := _) rfl rfl rfl rfl rfl (sp_X6_next0_p1 L xs sio (d + 0) dt32 hI33   (by first | trivial | omega) (by first | trivial | omega)) ?_
      rintro _ _ ⟨dt38, rfl, hI39, hF40, h37⟩
      refine ⟨rfl, ?_⟩
      have hF41 : Fr [79, 84] dt dt38 := Fr_tr hF35 hF40 (by decide)
      rcases h37 with ⟨rfl, h37⟩
      obtain ⟨h37_0, h37_1, h37_2, h37_3, h37_4, h37_5, h37_6, h37_7, h37_8⟩ := h37
      have hq42 := h37_0
      rw [show dt32 85 = dt 85 from funext (hF35 85 (by decide)), show dt32 79 12 = dt 79 12 by omega, hbb, show (dt 79 12).toNat = n by omega] at hq42
      have hc43 : CUR 1 b n dt38 (i + 1) := CUR_n hc36 hq42
      have hi44 : i + 1 ≤ t := by omega
      have hp45 : (gU (KF 1 b n)) i = gOk (i + 1) := (rfl : (gU (KF 1 b n)) i = (gU (KF 1 b n)) i).trans (by show gU _ _ = _; unfold gU; rw [if_pos (by omega)]; rfl)
      have cr46 := CUR_R hc43 (.inr rfl)
      have cb47 := CUR_b hc43
      have cv48 := CUR_v hc43
      have ck49 := KZ_lt (i := (i + 1)) hz
      have c150 := (hc43).1
      have ci51 := hi44
      refine go_ret (k := 2) (r := some (.inl 1)) (w1 := (SH, dt38)) (fun _ => rfl) ?_
      exact ⟨dt38, rfl, hI39, hF41, (Or.inr ⟨rfl, ⟨by exact RSX_ok (hp45.trans (by rfl)) hc43, by first | trivial | omega, by first | trivial | omega, by exact (InvC_get (by assumption) 79 15 rfl rfl).2, by first | trivial | omega, by first | trivial | omega, by first | trivial | omega, by first | trivial | omega, by first | trivial | omega, by first | trivial | omega⟩⟩)⟩
    · skip
      refine go_to (k := 4) (pc' := 26) (L' := [some (.inr (.inr (some 79))), some (.inl 0)]) (st' := [.inl 1, .inr (.inr (some 79))]) (w' := (SH, dt)) (fun _ => rfl) ?_
      refine go_call (Q' := _) rfl rfl rfl rfl rfl (sp_X6_bad_g L xs sio (d + 6) dt hI  1 ⟨by omega, by omega⟩ ) ?_
      rintro _ _ ⟨dt53, rfl, hI54, hF55, h52⟩
      refine ⟨rfl, ?_⟩
      have hF56 : Fr [79, 84] dt dt53 := Fr_tr hF hF55 (by decide)
      rcases h52 with ⟨rfl, h52⟩
      obtain ⟨h52_0, h52_1, h52_2, h52_3, h52_4, h52_5, h52_6, h52_7, h52_8, h52_9, h52_10, h52_11⟩ := h52
      have hc57 : CUR 1 b n dt53 i := CUR_sm hc (by omega) (by omega) (by omega) (by omega)
      refine go_ret (k := 1) (r := some (.inl 0)) (w1 := (SH, dt53)) (fun _ => rfl) ?_
      exact ⟨dt53, rfl, hI54, hF56, (Or.inl ⟨rfl, ⟨by first | exact RSX_f hI hI (by omega) (by omega) | exact RSX_no (k := 1) (j := i) ((rfl : (gU (KF 1 b n)) i = (gU (KF 1 b n)) i).trans (by show gU _ _ = _; unfold gU; rw [if_neg (by omega)])) (by decide) (by omega) (by show _ = ((TP b n i : Nat) : Int); omega), by first | trivial | omega, by first | trivial | omega, by first | trivial | omega, by first | trivial | omega⟩⟩)⟩
set_option maxHeartbeats 8000000 in
set_option maxRecDepth 20000 in
theorem sp_X6_product_g (L : Nat) (xs : Nat → Int32) (sio : Option Nat) (d : Nat) (dt : Nat → Nat → Int) (hI : InvC dt) (b : Nat → Int) (n t i : Nat) (hbb : mB (dt 85) (dt 79 12) = b) (hnn : dt 79 12 = (n : Int)) (hz : KZ (KF 1 b n) t) (ht : t ≤ 500) (hc : CUR 1 b n dt i) (hi : i ≤ t) (hn5 : n ≤ 500)  (h_p0 : dt 79 9 = 1) (h_p1 : dt 79 11 ≤ dt 79 15) : GO (am_XX L xs sio) (d + 8) 166 0 [some (.inr (.inr (some 79))), none, none] [] (SH, dt) (fun r w2 => ∃ dt2 : Nat → Nat → Int, w2 = (SH, dt2) ∧ InvC dt2 ∧ Fr [79, 84] dt dt2 ∧ ((r = some (.inl 0) ∧ (RSX 1 b n i dt2 0 ((gT (KF 1 b n) (VF b n)) i)) ∧ (dt2 79 2 = dt 79 2) ∧ (dt2 79 9 = dt 79 9) ∧ (dt2 79 10 = dt 79 10) ∧ (dt2 79 12 = dt 79 12)) ∨ (r = some (.inl 1) ∧ (RSX 1 b n i dt2 1 ((gT (KF 1 b n) (VF b n)) i)) ∧ (dt 79 15 + dt2 79 11 ≤ dt2 79 15 + dt 79 11) ∧ (dt 79 11 + 1 ≤ dt2 79 11) ∧ (dt2 79 15 ≤ 500) ∧ (dt2 79 2 = dt 79 2) ∧ (dt2 79 9 = dt 79 9) ∧ (dt2 79 10 = dt 79 10) ∧ (dt2 79 12 = dt 79 12) ∧ (dt2 79 17 = dt 79 17) ∧ (dt2 79 20 = dt 79 20)))) := by
  have hF : Fr [79, 84] dt dt := Fr_refl
  have r1 : 0 ≤ dt 79 15 ∧ dt 79 15 ≤ 500 := InvC_get hI 79 15 rfl rfl
  have r2 : 0 ≤ dt 79 11 ∧ dt 79 11 ≤ 510 := InvC_get hI 79 11 rfl rfl
  have r3 : 0 ≤ dt 79 10 ∧ dt 79 10 ≤ 24 := InvC_get hI 79 10 rfl rfl
  have cr0 := CUR_R hc (.inr rfl)
  have cb0 := CUR_b hc
  have cv0 := CUR_v hc
  have ck0 := KZ_lt (i := i) hz
  have c10 := hc.1
  refine go_to (k := 1) (pc' := 1) (L' := [some (.inr (.inr (some 79))), none, none]) (st' := [.inr (.inr (some 79))]) (w' := (SH, dt)) (fun _ => rfl) ?_
  refine go_call (Q' := _) rfl rfl rfl rfl rfl (sp_X6_unit_g L xs sio (d + 0) dt hI b n t i (by first | exact hbb | (rw [show dt 85 = dt 85 from funext (hF 85 (by decide)), show dt 79 12 = dt 79 12 by omega]; exact hbb)) (by omega) hz ht hc hi hn5  (by first | trivial | omega) (by first | trivial | omega)) ?_
  rintro _ _ ⟨dt5, rfl, hI6, hF7, h4⟩
  refine ⟨rfl, ?_⟩
  have hF8 : Fr [79, 84] dt dt5 := Fr_tr hF hF7 (by decide)
  rcases h4 with ⟨rfl, h4⟩ | ⟨rfl, h4⟩
  · skip
    obtain ⟨h4_0, h4_1, h4_2, h4_3, h4_4⟩ := h4
    have fl9 := RSX_0 h4_0 rfl
    have fe10 : (gT (KF 1 b n) (VF b n)) i = (gU (KF 1 b n)) i := (rfl : (gT (KF 1 b n) (VF b n)) i = (gT (KF 1 b n) (VF b n)) i).trans ((show (gT (KF 1 b n) (VF b n)) i = gB ((gU (KF 1 b n)) i) (gP (KF 1 b n) (VF b n) 600) by rfl).trans (gB_no fl9.1))
    refine go_ret (k := 3) (r := some (.inl 0)) (w1 := (SH, dt5)) (fun _ => rfl) ?_
    exact ⟨dt5, rfl, hI6, hF8, (Or.inl ⟨rfl, ⟨by exact RSX_f fe10 fl9 (by omega) (by omega), by first | trivial | omega, by first | trivial | omega, by first | trivial | omega, by first | trivial | omega⟩⟩)⟩
  · skip
    obtain ⟨h4_0, h4_1, h4_2, h4_3, h4_4, h4_5, h4_6, h4_7, h4_8, h4_9⟩ := h4
    obtain ⟨j11, ej12, hc13⟩ := RSX_1 h4_0 (by decide)
    have hp14 : (gT (KF 1 b n) (VF b n)) i = (gP (KF 1 b n) (VF b n) 600) j11 := (rfl : (gT (KF 1 b n) (VF b n)) i = (gT (KF 1 b n) (VF b n)) i).trans ((show (gT (KF 1 b n) (VF b n)) i = gB ((gU (KF 1 b n)) i) (gP (KF 1 b n) (VF b n) 600) by rfl).trans (by rw [ej12]; rfl))
    have hi15 : j11 ≤ t := by have z := gU_M (K := (KF 1 b n)) (i := i) hz; rw [ej12] at z; have y := z rfl; simp only at y; omega
    have cr16 := CUR_R hc13 (.inr rfl)
    have cb17 := CUR_b hc13
    have cv18 := CUR_v hc13
    have ck19 := KZ_lt (i := j11) hz
    have c120 := (hc13).1
    have ci21 := hi15
    refine go_to (k := 1) (pc' := 9) (L' := [some (.inr (.inr (some 79))), none, none]) (st' := []) (w' := (SH, dt5)) (fun _ => rfl) ?_
    have loop159 : ∀ (k_ : Nat) (dt146 : Nat → Nat → Int) (hI147 : InvC dt146) (hF148 : Fr [79, 84] dt dt146) (i149 : ∃ q : Nat, (gT (KF 1 b n) (VF b n)) i = (gP (KF 1 b n) (VF b n) 600) q ∧ CUR 1 b n dt146 q ∧ q ≤ t) (i150 : dt 79 15 + dt146 79 11 ≤ dt146 79 15 + dt 79 11) (i151 : dt 79 11 + 1 ≤ dt146 79 11) (i152 : dt146 79 15 ≤ 500) (i153 : dt146 79 2 = dt 79 2) (i154 : dt146 79 9 = dt 79 9) (i155 : dt146 79 10 = dt 79 10) (i156 : dt146 79 12 = dt 79 12) (i157 : dt146 79 17 = dt 79 17) (i158 : dt146 79 20 = dt 79 20), (502 - dt146 79 15).toNat < k_ → GO (am_XX L xs sio) (d + 8) 166 9 [some (.inr (.inr (some 79))), none, none] [] (SH, dt146) (fun r w2 => ∃ dt2 : Nat → Nat → Int, w2 = (SH, dt2) ∧ InvC dt2 ∧ Fr [79, 84] dt dt2 ∧ ((r = some (.inl 0) ∧ (RSX 1 b n i dt2 0 ((gT (KF 1 b n) (VF b n)) i)) ∧ (dt2 79 2 = dt 79 2) ∧ (dt2 79 9 = dt 79 9) ∧ (dt2 79 10 = dt 79 10) ∧ (dt2 79 12 = dt 79 12)) ∨ (r = some (.inl 1) ∧ (RSX 1 b n i dt2 1 ((gT (KF 1 b n) (VF b n)) i)) ∧ (dt 79 15 + dt2 79 11 ≤ dt2 79 15 + dt 79 11) ∧ (dt 79 11 + 1 ≤ dt2 79 11) ∧ (dt2 79 15 ≤ 500) ∧ (dt2 79 2 = dt 79 2) ∧ (dt2 79 9 = dt 79 9) ∧ (dt2 79 10 = dt 79 10) ∧ (dt2 79 12 = dt 79 12) ∧ (dt2 79 17 = dt 79 17) ∧ (dt2 79 20 = dt 79 20)))) := by
      intro k_
      induction k_ with
      | zero => intro dt146 hI147 hF148 i149 i150 i151 i152 i153 i154 i155 i156 i157 i158 hm; exact absurd hm (Nat.not_lt_zero _)
      | succ k_ ih_loop159 =>
        intro dt146 hI147 hF148 i149 i150 i151 i152 i153 i154 i155 i156 i157 i158 hm
        obtain ⟨gq, hpq, hcq, hiq⟩ := i149
        have crq := CUR_R hcq (.inr rfl)
        have cbq := CUR_b hcq
        have cvq := CUR_v hcq
        have ckq := KZ_lt (i := gq) hz
        have c1q := hcq.1
        have r160 : (-2147483648) ≤ dt146 79 14 ∧ dt146 79 14 ≤ 2147483647 := InvC_get hI147 79 14 rfl rfl
        refine go_if (k := 4) (p1 := 29) (p2 := 19) (L' := [some (.inr (.inr (some 79))), none, none]) (st' := []) (w' := (SH, dt146)) (fun _ => rfl) (c_eq (a := dt146 79 14) (b := 142) ⟨by omega, by omega⟩ ⟨by omega, by omega⟩) (fun c161 => ?_) (fun c161 => ?_)
        · skip
          refine go_if (k := 4) (p1 := 43) (p2 := 39) (L' := [some (.inr (.inr (some 79))), none, none]) (st' := []) (w' := (SH, dt146)) (fun _ => rfl) (c_ne (a := dt146 79 14) (b := 147) ⟨by omega, by omega⟩ ⟨by omega, by omega⟩) (fun c162 => ?_) (fun c162 => ?_)
          · skip
            refine go_to (k := 3) (pc' := 46) (L' := [some (.inr (.inr (some 79))), some (.inl 0), none]) (st' := [.inr (.inr (some 79))]) (w' := (SH, dt146)) (fun _ => rfl) ?_
            refine go_call (Q' := _) rfl rfl rfl rfl rfl (sp_X6_next0_p1 L xs sio (d + 1) dt146 hI147   (by first | trivial | omega) (by first | trivial | omega)) ?_
            rintro _ _ ⟨dt164, rfl, hI165, hF166, h163⟩
            refine ⟨rfl, ?_⟩
            have hF167 : Fr [79, 84] dt dt164 := Fr_tr hF148 hF166 (by decide)
            rcases h163 with ⟨rfl, h163⟩
            obtain ⟨h163_0, h163_1, h163_2, h163_3, h163_4, h163_5, h163_6, h163_7, h163_8⟩ := h163
            have hq168 := h163_0
            rw [show dt146 85 = dt 85 from funext (hF148 85 (by decide)), show dt146 79 12 = dt 79 12 by omega, hbb, show (dt 79 12).toNat = n by omega] at hq168
            have hc169 : CUR 1 b n dt164 (gq + 1) := CUR_n hcq hq168
            have hi170 : gq + 1 ≤ t := by omega
            have hp171 : (gT (KF 1 b n) (VF b n)) i = (fun i => gB (gU (KF 1 b n) i) (gP (KF 1 b n) (VF b n) 600)) (gq + 1) := hpq.trans (by show gP _ _ 600 gq = _; rw [gP_u hz (by omega) (by omega)]; first | (rw [if_pos (by omega)]; done) | (rw [if_pos (by omega)]; rfl))
            have cr172 := CUR_R hc169 (.inr rfl)
            have cb173 := CUR_b hc169
            have cv174 := CUR_v hc169
            have ck175 := KZ_lt (i := (gq + 1)) hz
            have c1176 := (hc169).1
            have ci177 := hi170
            refine go_to (k := 3) (pc' := 82) (L' := [some (.inr (.inr (some 79))), some (.inl 0), none]) (st' := [.inr (.inr (some 79))]) (w' := (SH, dt164)) (fun _ => rfl) ?_
            refine go_call (Q' := _) rfl rfl rfl rfl rfl (sp_X6_unit_g L xs sio (d + 0) dt164 hI165 b n t (gq + 1) (by first | exact hbb | (rw [show dt164 85 = dt 85 from funext (hF167 85 (by decide)), show dt164 79 12 = dt 79 12 by omega]; exact hbb)) (by omega) hz ht hc169 hi170 hn5  (by first | trivial | omega) (by first | trivial | omega)) ?_
            rintro _ _ ⟨dt179, rfl, hI180, hF181, h178⟩
            refine ⟨rfl, ?_⟩
            have hF182 : Fr [79, 84] dt dt179 := Fr_tr hF167 hF181 (by decide)
            rcases h178 with ⟨rfl, h178⟩ | ⟨rfl, h178⟩
            · skip
              obtain ⟨h178_0, h178_1, h178_2, h178_3, h178_4⟩ := h178
              have fl183 := RSX_0 h178_0 rfl
              have fe184 : (gT (KF 1 b n) (VF b n)) i = (gU (KF 1 b n)) (gq + 1) := hp171.trans ((show (fun i => gB (gU (KF 1 b n) i) (gP (KF 1 b n) (VF b n) 600)) (gq + 1) = gB ((gU (KF 1 b n)) (gq + 1)) (gP (KF 1 b n) (VF b n) 600) by rfl).trans (gB_no fl183.1))
              refine go_ret (k := 3) (r := some (.inl 0)) (w1 := (SH, dt179)) (fun _ => rfl) ?_
              exact ⟨dt179, rfl, hI180, hF182, (Or.inl ⟨rfl, ⟨by exact RSX_f fe184 fl183 (by omega) (by omega), by first | trivial | omega, by first | trivial | omega, by first | trivial | omega, by first | trivial | omega⟩⟩)⟩
            · skip
              obtain ⟨h178_0, h178_1, h178_2, h178_3, h178_4, h178_5, h178_6, h178_7, h178_8, h178_9⟩ := h178
              obtain ⟨j185, ej186, hc187⟩ := RSX_1 h178_0 (by decide)
              have hp188 : (gT (KF 1 b n) (VF b n)) i = (gP (KF 1 b n) (VF b n) 600) j185 := hp171.trans ((show (fun i => gB (gU (KF 1 b n) i) (gP (KF 1 b n) (VF b n) 600)) (gq + 1) = gB ((gU (KF 1 b n)) (gq + 1)) (gP (KF 1 b n) (VF b n) 600) by rfl).trans (by rw [ej186]; rfl))
              have hi189 : j185 ≤ t := by have z := gU_M (K := (KF 1 b n)) (i := (gq + 1)) hz; rw [ej186] at z; have y := z rfl; simp only at y; omega
              have cr190 := CUR_R hc187 (.inr rfl)
              have cb191 := CUR_b hc187
              have cv192 := CUR_v hc187
              have ck193 := KZ_lt (i := j185) hz
              have c1194 := (hc187).1
              have ci195 := hi189
              refine go_to (k := 4) (pc' := 94) (L' := [some (.inr (.inr (some 79))), some (.inl 0), none]) (st' := [.inl 0, .inl 9, .inr (.inr (some 79))]) (w' := (SH, dt179)) (fun _ => rfl) ?_
              refine go_call (Q' := _) rfl rfl rfl rfl rfl (sp_X6_lay_g L xs sio (d + 7) dt179 hI180  9 ⟨by omega, by omega⟩ 0 ⟨by omega, by omega⟩ (by first | trivial | omega)) ?_
              rintro _ _ ⟨dt197, rfl, hI198, hF199, h196⟩
              refine ⟨rfl, ?_⟩
              have hF200 : Fr [79, 84] dt dt197 := Fr_tr hF182 hF199 (by decide)
              rcases h196 with ⟨rfl, h196⟩
              obtain ⟨h196_0, h196_1, h196_2, h196_3, h196_4, h196_5, h196_6, h196_7, h196_8, h196_9, h196_10⟩ := h196
              have hc201 : CUR 1 b n dt197 j185 := CUR_sm hc187 (by omega) (by omega) (by omega) (by omega)
              refine go_to (k := 1) (pc' := 9) (L' := [some (.inr (.inr (some 79))), some (.inl 0), none]) (st' := []) (w' := (SH, dt197)) (fun _ => rfl) ?_
              exact GO.le (ih_loop159  dt197 hI198 hF200 (by first | omega | exact ⟨_, hp188, hc201, hi189⟩) (by first | omega | exact ⟨_, hp188, hc201, hi189⟩) (by first | omega | exact ⟨_, hp188, hc201, hi189⟩) (by first | omega | exact ⟨_, hp188, hc201, hi189⟩) (by first | omega | exact ⟨_, hp188, hc201, hi189⟩) (by first | omega | exact ⟨_, hp188, hc201, hi189⟩) (by first | omega | exact ⟨_, hp188, hc201, hi189⟩) (by first | omega | exact ⟨_, hp188, hc201, hi189⟩) (by first | omega | exact ⟨_, hp188, hc201, hi189⟩) (by first | omega | exact ⟨_, hp188, hc201, hi189⟩) (by omega)) ⟨.inl rfl, .inr ⟨rfl, trivial⟩, .inl rfl, trivial⟩
          · exfalso; omega
        · skip
          refine go_if (k := 4) (p1 := 100) (p2 := 29) (L' := [some (.inr (.inr (some 79))), none, none]) (st' := []) (w' := (SH, dt146)) (fun _ => rfl) (c_ne (a := dt146 79 14) (b := 147) ⟨by omega, by omega⟩ ⟨by omega, by omega⟩) (fun c202 => ?_) (fun c202 => ?_)
          · skip
            refine go_ret (k := 2) (r := some (.inl 1)) (w1 := (SH, dt146)) (fun _ => rfl) ?_
            exact ⟨dt146, rfl, hI147, hF148, (Or.inr ⟨rfl, ⟨by exact RSX_ok (hpq.trans (by show gP _ _ 600 gq = _; rw [gP_u hz (by omega) (by omega), if_neg (by omega), if_neg (by omega)])) hcq, by first | trivial | omega, by first | trivial | omega, by exact (InvC_get (by assumption) 79 15 rfl rfl).2, by first | trivial | omega, by first | trivial | omega, by first | trivial | omega, by first | trivial | omega, by first | trivial | omega, by first | trivial | omega⟩⟩)⟩
          · skip
            refine go_if (k := 4) (p1 := 43) (p2 := 39) (L' := [some (.inr (.inr (some 79))), none, none]) (st' := []) (w' := (SH, dt146)) (fun _ => rfl) (c_ne (a := dt146 79 14) (b := 147) ⟨by omega, by omega⟩ ⟨by omega, by omega⟩) (fun c203 => ?_) (fun c203 => ?_)
            · skip
              refine go_to (k := 3) (pc' := 46) (L' := [some (.inr (.inr (some 79))), some (.inl 0), none]) (st' := [.inr (.inr (some 79))]) (w' := (SH, dt146)) (fun _ => rfl) ?_
              refine go_call (Q' := _) rfl rfl rfl rfl rfl (sp_X6_next0_p1 L xs sio (d + 1) dt146 hI147   (by first | trivial | omega) (by first | trivial | omega)) ?_
              rintro _ _ ⟨dt205, rfl, hI206, hF207, h204⟩
              refine ⟨rfl, ?_⟩
              have hF208 : Fr [79, 84] dt dt205 := Fr_tr hF148 hF207 (by decide)
              rcases h204 with ⟨rfl, h204⟩
              obtain ⟨h204_0, h204_1, h204_2, h204_3, h204_4, h204_5, h204_6, h204_7, h204_8⟩ := h204
              have hq209 := h204_0
              rw [show dt146 85 = dt 85 from funext (hF148 85 (by decide)), show dt146 79 12 = dt 79 12 by omega, hbb, show (dt 79 12).toNat = n by omega] at hq209
              have hc210 : CUR 1 b n dt205 (gq + 1) := CUR_n hcq hq209
              have hi211 : gq + 1 ≤ t := by omega
              have hp212 : (gT (KF 1 b n) (VF b n)) i = (fun i => gB (gU (KF 1 b n) i) (gP (KF 1 b n) (VF b n) 600)) (gq + 1) := hpq.trans (by show gP _ _ 600 gq = _; rw [gP_u hz (by omega) (by omega)]; first | (rw [if_pos (by omega)]; done) | (rw [if_pos (by omega)]; rfl))
              have cr213 := CUR_R hc210 (.inr rfl)
              have cb214 := CUR_b hc210
              have cv215 := CUR_v hc210
              have ck216 := KZ_lt (i := (gq + 1)) hz
              have c1217 := (hc210).1
              have ci218 := hi211
              refine go_to (k := 3) (pc' := 82) (L' := [some (.inr (.inr (some 79))), some (.inl 0), none]) (st' := [.inr (.inr (some 79))]) (w' := (SH, dt205)) (fun _ => rfl) ?_
              refine go_call (Q' := _) rfl rfl rfl rfl rfl (sp_X6_unit_g L xs sio (d + 0) dt205 hI206 b n t (gq + 1) (by first | exact hbb | (rw [show dt205 85 = dt 85 from funext (hF208 85 (by decide)), show dt205 79 12 = dt 79 12 by omega]; exact hbb)) (by omega) hz ht hc210 hi211 hn5  (by first | trivial | omega) (by first | trivial | omega)) ?_
              rintro _ _ ⟨dt220, rfl, hI221, hF222, h219⟩
              refine ⟨rfl, ?_⟩
              have hF223 : Fr [79, 84] dt dt220 := Fr_tr hF208 hF222 (by decide)
              rcases h219 with ⟨rfl, h219⟩ | ⟨rfl, h219⟩
              · skip
                obtain ⟨h219_0, h219_1, h219_2, h219_3, h219_4⟩ := h219
                have fl224 := RSX_0 h219_0 rfl
                have fe225 : (gT (KF 1 b n) (VF b n)) i = (gU (KF 1 b n)) (gq + 1) := hp212.trans ((show (fun i => gB (gU (KF 1 b n) i) (gP (KF 1 b n) (VF b n) 600)) (gq + 1) = gB ((gU (KF 1 b n)) (gq + 1)) (gP (KF 1 b n) (VF b n) 600) by rfl).trans (gB_no fl224.1))
                refine go_ret (k := 3) (r := some (.inl 0)) (w1 := (SH, dt220)) (fun _ => rfl) ?_
                exact ⟨dt220, rfl, hI221, hF223, (Or.inl ⟨rfl, ⟨by exact RSX_f fe225 fl224 (by omega) (by omega), by first | trivial | omega, by first | trivial | omega, by first | trivial | omega, by first | trivial | omega⟩⟩)⟩
              · skip
                obtain ⟨h219_0, h219_1, h219_2, h219_3, h219_4, h219_5, h219_6, h219_7, h219_8, h219_9⟩ := h219
                obtain ⟨j226, ej227, hc228⟩ := RSX_1 h219_0 (by decide)
                have hp229 : (gT (KF 1 b n) (VF b n)) i = (gP (KF 1 b n) (VF b n) 600) j226 := hp212.trans ((show (fun i => gB (gU (KF 1 b n) i) (gP (KF 1 b n) (VF b n) 600)) (gq + 1) = gB ((gU (KF 1 b n)) (gq + 1)) (gP (KF 1 b n) (VF b n) 600) by rfl).trans (by rw [ej227]; rfl))
                have hi230 : j226 ≤ t := by have z := gU_M (K := (KF 1 b n)) (i := (gq + 1)) hz; rw [ej227] at z; have y := z rfl; simp only at y; omega
                have cr231 := CUR_R hc228 (.inr rfl)
                have cb232 := CUR_b hc228
                have cv233 := CUR_v hc228
                have ck234 := KZ_lt (i := j226) hz
                have c1235 := (hc228).1
                have ci236 := hi230
                refine go_to (k := 4) (pc' := 94) (L' := [some (.inr (.inr (some 79))), some (.inl 0), none]) (st' := [.inl 0, .inl 9, .inr (.inr (some 79))]) (w' := (SH, dt220)) (fun _ => rfl) ?_
                refine go_call (Q' := _) rfl rfl rfl rfl rfl (sp_X6_lay_g L xs sio (d + 7) dt220 hI221  9 ⟨by omega, by omega⟩ 0 ⟨by omega, by omega⟩ (by first | trivial | omega)) ?_
                rintro _ _ ⟨dt238, rfl, hI239, hF240, h237⟩
                refine ⟨rfl, ?_⟩
                have hF241 : Fr [79, 84] dt dt238 := Fr_tr hF223 hF240 (by decide)
                rcases h237 with ⟨rfl, h237⟩
                obtain ⟨h237_0, h237_1, h237_2, h237_3, h237_4, h237_5, h237_6, h237_7, h237_8, h237_9, h237_10⟩ := h237
                have hc242 : CUR 1 b n dt238 j226 := CUR_sm hc228 (by omega) (by omega) (by omega) (by omega)
                refine go_to (k := 1) (pc' := 9) (L' := [some (.inr (.inr (some 79))), some (.inl 0), none]) (st' := []) (w' := (SH, dt238)) (fun _ => rfl) ?_
                exact GO.le (ih_loop159  dt238 hI239 hF241 (by first | omega | exact ⟨_, hp229, hc242, hi230⟩) (by first | omega | exact ⟨_, hp229, hc242, hi230⟩) (by first | omega | exact ⟨_, hp229, hc242, hi230⟩) (by first | omega | exact ⟨_, hp229, hc242, hi230⟩) (by first | omega | exact ⟨_, hp229, hc242, hi230⟩) (by first | omega | exact ⟨_, hp229, hc242, hi230⟩) (by first | omega | exact ⟨_, hp229, hc242, hi230⟩) (by first | omega | exact ⟨_, hp229, hc242, hi230⟩) (by first | omega | exact ⟨_, hp229, hc242, hi230⟩) (by first | omega | exact ⟨_, hp229, hc242, hi230⟩) (by omega)) ⟨.inl rfl, .inr ⟨rfl, trivial⟩, .inl rfl, trivial⟩
            · skip
              refine go_to (k := 4) (pc' := 46) (L' := [some (.inr (.inr (some 79))), some (.inl 1), none]) (st' := [.inr (.inr (some 79))]) (w' := (SH, dt146)) (fun _ => rfl) ?_
              refine go_call (Q' := _) rfl rfl rfl rfl rfl (sp_X6_next0_p1 L xs sio (d + 1) dt146 hI147   (by first | trivial | omega) (by first | trivial | omega)) ?_
              rintro _ _ ⟨dt244, rfl, hI245, hF246, h243⟩
              refine ⟨rfl, ?_⟩
              have hF247 : Fr [79, 84] dt dt244 := Fr_tr hF148 hF246 (by decide)
              rcases h243 with ⟨rfl, h243⟩
              obtain ⟨h243_0, h243_1, h243_2, h243_3, h243_4, h243_5, h243_6, h243_7, h243_8⟩ := h243
              have hq248 := h243_0
              rw [show dt146 85 = dt 85 from funext (hF148 85 (by decide)), show dt146 79 12 = dt 79 12 by omega, hbb, show (dt 79 12).toNat = n by omega] at hq248
              have hc249 : CUR 1 b n dt244 (gq + 1) := CUR_n hcq hq248
              have hi250 : gq + 1 ≤ t := by omega
              have hp251 : (gT (KF 1 b n) (VF b n)) i = (fun i => gB (gD (KF 1 b n) (VF b n) i) (gP (KF 1 b n) (VF b n) 600)) (gq + 1) := hpq.trans (by show gP _ _ 600 gq = _; rw [gP_u hz (by omega) (by omega)]; first | (rw [if_neg (by omega), if_pos (by omega)]; done) | (rw [if_neg (by omega), if_pos (by omega)]; rfl))
              have cr252 := CUR_R hc249 (.inr rfl)
              have cb253 := CUR_b hc249
              have cv254 := CUR_v hc249
              have ck255 := KZ_lt (i := (gq + 1)) hz
              have c1256 := (hc249).1
              have ci257 := hi250
              have r258 : 0 ≤ dt244 79 16 ∧ dt244 79 16 ≤ 9999 := InvC_get hI245 79 16 rfl rfl
              refine go_to (k := 8) (pc' := 63) (L' := [some (.inr (.inr (some 79))), some (.inl 1), some (.inl (dt244 79 16))]) (st' := [.inl 9999, .inl 1, .inr (.inr (some 79))]) (w' := (SH, dt244)) (fun _ => rfl) ?_
              refine go_call (Q' := _) rfl rfl rfl rfl rfl (sp_X6_number_g1d L xs sio (d + 0) dt244 hI245 b n t (gq + 1) (by first | exact hbb | (rw [show dt244 85 = dt 85 from funext (hF247 85 (by decide)), show dt244 79 12 = dt 79 12 by omega]; exact hbb)) (by omega) hz ht hc249 hi250 hn5  (by first | trivial | omega)) ?_
              rintro _ _ ⟨dt260, rfl, hI261, hF262, h259⟩
              refine ⟨rfl, ?_⟩
              have hF263 : Fr [79, 84] dt dt260 := Fr_tr hF247 hF262 (by decide)
              rcases h259 with ⟨rfl, h259⟩ | ⟨rfl, h259⟩
              · skip
                obtain ⟨h259_0, h259_1, h259_2, h259_3, h259_4⟩ := h259
                have fl264 := RSX_0 h259_0 rfl
                have fe265 : (gT (KF 1 b n) (VF b n)) i = (gD (KF 1 b n) (VF b n)) (gq + 1) := hp251.trans ((show (fun i => gB (gD (KF 1 b n) (VF b n) i) (gP (KF 1 b n) (VF b n) 600)) (gq + 1) = gB ((gD (KF 1 b n) (VF b n)) (gq + 1)) (gP (KF 1 b n) (VF b n) 600) by rfl).trans (gB_no fl264.1))
                refine go_ret (k := 3) (r := some (.inl 0)) (w1 := (SH, dt260)) (fun _ => rfl) ?_
                exact ⟨dt260, rfl, hI261, hF263, (Or.inl ⟨rfl, ⟨by exact RSX_f fe265 fl264 (by omega) (by omega), by first | trivial | omega, by first | trivial | omega, by first | trivial | omega, by first | trivial | omega⟩⟩)⟩
              · skip
                obtain ⟨h259_0, h259_1, h259_2, h259_3, h259_4, h259_5, h259_6, h259_7, h259_8, h259_9, h259_10⟩ := h259
                obtain ⟨j266, ej267, hc268⟩ := RSX_1 h259_0 (by decide)
                have hp269 : (gT (KF 1 b n) (VF b n)) i = (gP (KF 1 b n) (VF b n) 600) j266 := hp251.trans ((show (fun i => gB (gD (KF 1 b n) (VF b n) i) (gP (KF 1 b n) (VF b n) 600)) (gq + 1) = gB ((gD (KF 1 b n) (VF b n)) (gq + 1)) (gP (KF 1 b n) (VF b n) 600) by rfl).trans (by rw [ej267]; rfl))
                have hi270 : j266 ≤ t := by have z := gD_M (K := (KF 1 b n)) (V := (VF b n)) (i := (gq + 1)) hz; rw [ej267] at z; have y := z rfl; simp only at y; omega
                have cr271 := CUR_R hc268 (.inr rfl)
                have cb272 := CUR_b hc268
                have cv273 := CUR_v hc268
                have ck274 := KZ_lt (i := j266) hz
                have c1275 := (hc268).1
                have ci276 := hi270
                refine go_to (k := 4) (pc' := 75) (L' := [some (.inr (.inr (some 79))), some (.inl 1), some (.inl (dt244 79 16))]) (st' := [.inl (dt244 79 16), .inl 10, .inr (.inr (some 79))]) (w' := (SH, dt260)) (fun _ => rfl) ?_
                refine go_call (Q' := _) rfl rfl rfl rfl rfl (sp_X6_lay_g L xs sio (d + 7) dt260 hI261  10 ⟨by omega, by omega⟩ (dt244 79 16) ⟨by omega, by omega⟩ (by first | trivial | omega)) ?_
                rintro _ _ ⟨dt278, rfl, hI279, hF280, h277⟩
                refine ⟨rfl, ?_⟩
                have hF281 : Fr [79, 84] dt dt278 := Fr_tr hF263 hF280 (by decide)
                rcases h277 with ⟨rfl, h277⟩
                obtain ⟨h277_0, h277_1, h277_2, h277_3, h277_4, h277_5, h277_6, h277_7, h277_8, h277_9, h277_10⟩ := h277
                have hc282 : CUR 1 b n dt278 j266 := CUR_sm hc268 (by omega) (by omega) (by omega) (by omega)
                refine go_to (k := 2) (pc' := 9) (L' := [some (.inr (.inr (some 79))), some (.inl 1), some (.inl (dt244 79 16))]) (st' := []) (w' := (SH, dt278)) (fun _ => rfl) ?_
                exact GO.le (ih_loop159  dt278 hI279 hF281 (by first | omega | exact ⟨_, hp269, hc282, hi270⟩) (by first | omega | exact ⟨_, hp269, hc282, hi270⟩) (by first | omega | exact ⟨_, hp269, hc282, hi270⟩) (by first | omega | exact ⟨_, hp269, hc282, hi270⟩) (by first | omega | exact ⟨_, hp269, hc282, hi270⟩) (by first | omega | exact ⟨_, hp269, hc282, hi270⟩) (by first | omega | exact ⟨_, hp269, hc282, hi270⟩) (by first | omega | exact ⟨_, hp269, hc282, hi270⟩) (by first | omega | exact ⟨_, hp269, hc282, hi270⟩) (by first | omega | exact ⟨_, hp269, hc282, hi270⟩) (by omega)) ⟨.inl rfl, .inr ⟨rfl, trivial⟩, .inr ⟨rfl, trivial⟩, trivial⟩
    exact GO.le (loop159 _  dt5 hI6 hF8 (by first | omega | exact ⟨_, hp14, hc13, hi15⟩) (by first | omega | exact ⟨_, hp14, hc13, hi15⟩) (by first | omega | exact ⟨_, hp14, hc13, hi15⟩) (by first | omega | exact ⟨_, hp14, hc13, hi15⟩) (by first | omega | exact ⟨_, hp14, hc13, hi15⟩) (by first | omega | exact ⟨_, hp14, hc13, hi15⟩) (by first | omega | exact ⟨_, hp14, hc13, hi15⟩) (by first | omega | exact ⟨_, hp14, hc13, hi15⟩) (by first | omega | exact ⟨_, hp14, hc13, hi15⟩) (by first | omega | exact ⟨_, hp14, hc13, hi15⟩) (Nat.lt_succ_self _)) ⟨.inl rfl, .inl rfl, .inl rfl, trivial⟩
set_option maxHeartbeats 8000000 in
set_option maxRecDepth 20000 in
theorem sp_X6_sumUp_g (L : Nat) (xs : Nat → Int32) (sio : Option Nat) (d : Nat) (dt : Nat → Nat → Int) (hI : InvC dt) (b : Nat → Int) (n t i : Nat) (hbb : mB (dt 85) (dt 79 12) = b) (hnn : dt 79 12 = (n : Int)) (hz : KZ (KF 1 b n) t) (ht : t ≤ 500) (hc : CUR 1 b n dt i) (hi : i ≤ t) (hn5 : n ≤ 500)  (h_p0 : dt 79 9 = 1) (h_p1 : dt 79 11 ≤ dt 79 15) : GO (am_XX L xs sio) (d + 9) 165 0 [some (.inr (.inr (some 79))), none] [] (SH, dt) (fun r w2 => ∃ dt2 : Nat → Nat → Int, w2 = (SH, dt2) ∧ InvC dt2 ∧ Fr [79, 84] dt dt2 ∧ ((r = some (.inl 0) ∧ (RSX 1 b n i dt2 0 ((gE (KF 1 b n) (VF b n)) i)) ∧ (dt2 79 2 = dt 79 2) ∧ (dt2 79 9 = dt 79 9) ∧ (dt2 79 10 = dt 79 10) ∧ (dt2 79 12 = dt 79 12)) ∨ (r = some (.inl 1) ∧ (RSX 1 b n i dt2 1 ((gE (KF 1 b n) (VF b n)) i)) ∧ (dt 79 15 + dt2 79 11 ≤ dt2 79 15 + dt 79 11) ∧ (dt 79 11 + 1 ≤ dt2 79 11) ∧ (dt2 79 15 ≤ 500) ∧ (dt2 79 2 = dt 79 2) ∧ (dt2 79 9 = dt 79 9) ∧ (dt2 79 10 = dt 79 10) ∧ (dt2 79 12 = dt 79 12) ∧ (dt2 79 17 = dt 79 17) ∧ (dt2 79 20 = dt 79 20)))) := by
  have hF : Fr [79, 84] dt dt := Fr_refl
  have r1 : 0 ≤ dt 79 15 ∧ dt 79 15 ≤ 500 := InvC_get hI 79 15 rfl rfl
  have r2 : 0 ≤ dt 79 11 ∧ dt 79 11 ≤ 510 := InvC_get hI 79 11 rfl rfl
  have r3 : 0 ≤ dt 79 10 ∧ dt 79 10 ≤ 24 := InvC_get hI 79 10 rfl rfl
  have cr0 := CUR_R hc (.inr rfl)
  have cb0 := CUR_b hc
  have cv0 := CUR_v hc
  have ck0 := KZ_lt (i := i) hz
  have c10 := hc.1
  refine go_to (k := 1) (pc' := 1) (L' := [some (.inr (.inr (some 79))), none]) (st' := [.inr (.inr (some 79))]) (w' := (SH, dt)) (fun _ => rfl) ?_
  refine go_call (Q' := _) rfl rfl rfl rfl rfl (sp_X6_product_g L xs sio (d + 0) dt hI b n t i (by first | exact hbb | (rw [show dt 85 = dt 85 from funext (hF 85 (by decide)), show dt 79 12 = dt 79 12 by omega]; exact hbb)) (by omega) hz ht hc hi hn5  (by first | trivial | omega) (by first | trivial | omega)) ?_
  rintro _ _ ⟨dt5, rfl, hI6, hF7, h4⟩
  refine ⟨rfl, ?_⟩
  have hF8 : Fr [79, 84] dt dt5 := Fr_tr hF hF7 (by decide)
  rcases h4 with ⟨rfl, h4⟩ | ⟨rfl, h4⟩
  · skip
    obtain ⟨h4_0, h4_1, h4_2, h4_3, h4_4⟩ := h4
    have fl9 := RSX_0 h4_0 rfl
    have fe10 : (gE (KF 1 b n) (VF b n)) i = (gT (KF 1 b n) (VF b n)) i := (rfl : (gE (KF 1 b n) (VF b n)) i = (gE (KF 1 b n) (VF b n)) i).trans ((show (gE (KF 1 b n) (VF b n)) i = gB ((gT (KF 1 b n) (VF b n)) i) (gQ (KF 1 b n) (VF b n) 600) by exact gE_PQ hz (by omega)).trans (gB_no fl9.1))
    refine go_ret (k := 3) (r := some (.inl 0)) (w1 := (SH, dt5)) (fun _ => rfl) ?_
    exact ⟨dt5, rfl, hI6, hF8, (Or.inl ⟨rfl, ⟨by exact RSX_f fe10 fl9 (by omega) (by omega), by first | trivial | omega, by first | trivial | omega, by first | trivial | omega, by first | trivial | omega⟩⟩)⟩
  · skip
    obtain ⟨h4_0, h4_1, h4_2, h4_3, h4_4, h4_5, h4_6, h4_7, h4_8, h4_9⟩ := h4
    obtain ⟨j11, ej12, hc13⟩ := RSX_1 h4_0 (by decide)
    have hp14 : (gE (KF 1 b n) (VF b n)) i = (gQ (KF 1 b n) (VF b n) 600) j11 := (rfl : (gE (KF 1 b n) (VF b n)) i = (gE (KF 1 b n) (VF b n)) i).trans ((show (gE (KF 1 b n) (VF b n)) i = gB ((gT (KF 1 b n) (VF b n)) i) (gQ (KF 1 b n) (VF b n) 600) by exact gE_PQ hz (by omega)).trans (by rw [ej12]; rfl))
    have hi15 : j11 ≤ t := by have z := gT_M' (K := (KF 1 b n)) (V := (VF b n)) (i := i) hz; rw [ej12] at z; have y := z rfl; simp only at y; omega
    have cr16 := CUR_R hc13 (.inr rfl)
    have cb17 := CUR_b hc13
    have cv18 := CUR_v hc13
    have ck19 := KZ_lt (i := j11) hz
    have c120 := (hc13).1
    have ci21 := hi15
    refine go_to (k := 1) (pc' := 9) (L' := [some (.inr (.inr (some 79))), none]) (st' := []) (w' := (SH, dt5)) (fun _ => rfl) ?_
    have loop158 : ∀ (k_ : Nat) (dt145 : Nat → Nat → Int) (hI146 : InvC dt145) (hF147 : Fr [79, 84] dt dt145) (i148 : ∃ q : Nat, (gE (KF 1 b n) (VF b n)) i = (gQ (KF 1 b n) (VF b n) 600) q ∧ CUR 1 b n dt145 q ∧ q ≤ t) (i149 : dt 79 15 + dt145 79 11 ≤ dt145 79 15 + dt 79 11) (i150 : dt 79 11 + 1 ≤ dt145 79 11) (i151 : dt145 79 15 ≤ 500) (i152 : dt145 79 2 = dt 79 2) (i153 : dt145 79 9 = dt 79 9) (i154 : dt145 79 10 = dt 79 10) (i155 : dt145 79 12 = dt 79 12) (i156 : dt145 79 17 = dt 79 17) (i157 : dt145 79 20 = dt 79 20), (502 - dt145 79 15).toNat < k_ → GO (am_XX L xs sio) (d + 9) 165 9 [some (.inr (.inr (some 79))), none] [] (SH, dt145) (fun r w2 => ∃ dt2 : Nat → Nat → Int, w2 = (SH, dt2) ∧ InvC dt2 ∧ Fr [79, 84] dt dt2 ∧ ((r = some (.inl 0) ∧ (RSX 1 b n i dt2 0 ((gE (KF 1 b n) (VF b n)) i)) ∧ (dt2 79 2 = dt 79 2) ∧ (dt2 79 9 = dt 79 9) ∧ (dt2 79 10 = dt 79 10) ∧ (dt2 79 12 = dt 79 12)) ∨ (r = some (.inl 1) ∧ (RSX 1 b n i dt2 1 ((gE (KF 1 b n) (VF b n)) i)) ∧ (dt 79 15 + dt2 79 11 ≤ dt2 79 15 + dt 79 11) ∧ (dt 79 11 + 1 ≤ dt2 79 11) ∧ (dt2 79 15 ≤ 500) ∧ (dt2 79 2 = dt 79 2) ∧ (dt2 79 9 = dt 79 9) ∧ (dt2 79 10 = dt 79 10) ∧ (dt2 79 12 = dt 79 12) ∧ (dt2 79 17 = dt 79 17) ∧ (dt2 79 20 = dt 79 20)))) := by
      intro k_
      induction k_ with
      | zero => intro dt145 hI146 hF147 i148 i149 i150 i151 i152 i153 i154 i155 i156 i157 hm; exact absurd hm (Nat.not_lt_zero _)
      | succ k_ ih_loop158 =>
        intro dt145 hI146 hF147 i148 i149 i150 i151 i152 i153 i154 i155 i156 i157 hm
        obtain ⟨gq, hpq, hcq, hiq⟩ := i148
        have crq := CUR_R hcq (.inr rfl)
        have cbq := CUR_b hcq
        have cvq := CUR_v hcq
        have ckq := KZ_lt (i := gq) hz
        have c1q := hcq.1
        have r159 : (-2147483648) ≤ dt145 79 14 ∧ dt145 79 14 ≤ 2147483647 := InvC_get hI146 79 14 rfl rfl
        refine go_if (k := 4) (p1 := 29) (p2 := 19) (L' := [some (.inr (.inr (some 79))), none]) (st' := []) (w' := (SH, dt145)) (fun _ => rfl) (c_eq (a := dt145 79 14) (b := 143) ⟨by omega, by omega⟩ ⟨by omega, by omega⟩) (fun c160 => ?_) (fun c160 => ?_)
        · skip
          refine go_if (k := 4) (p1 := 44) (p2 := 39) (L' := [some (.inr (.inr (some 79))), none]) (st' := []) (w' := (SH, dt145)) (fun _ => rfl) (c_ne (a := dt145 79 14) (b := 143) ⟨by omega, by omega⟩ ⟨by omega, by omega⟩) (fun c161 => ?_) (fun c161 => ?_)
          · skip
            refine go_to (k := 3) (pc' := 48) (L' := [some (.inr (.inr (some 79))), some (.inl 8)]) (st' := [.inr (.inr (some 79))]) (w' := (SH, dt145)) (fun _ => rfl) ?_
            refine go_call (Q' := _) rfl rfl rfl rfl rfl (sp_X6_next0_p1 L xs sio (d + 2) dt145 hI146   (by first | trivial | omega) (by first | trivial | omega)) ?_
            rintro _ _ ⟨dt163, rfl, hI164, hF165, h162⟩
            refine ⟨rfl, ?_⟩
            have hF166 : Fr [79, 84] dt dt163 := Fr_tr hF147 hF165 (by decide)
            rcases h162 with ⟨rfl, h162⟩
            obtain ⟨h162_0, h162_1, h162_2, h162_3, h162_4, h162_5, h162_6, h162_7, h162_8⟩ := h162
            have hq167 := h162_0
            rw [show dt145 85 = dt 85 from funext (hF147 85 (by decide)), show dt145 79 12 = dt 79 12 by omega, hbb, show (dt 79 12).toNat = n by omega] at hq167
            have hc168 : CUR 1 b n dt163 (gq + 1) := CUR_n hcq hq167
            have hi169 : gq + 1 ≤ t := by omega
            have hp170 : (gE (KF 1 b n) (VF b n)) i = (fun i => gB (gT (KF 1 b n) (VF b n) i) (gQ (KF 1 b n) (VF b n) 600)) (gq + 1) := hpq.trans (by show gQ _ _ 600 gq = _; rw [gQ_u hz (by omega) (by omega)]; first | (rw [if_pos (by omega)]; done) | (rw [if_pos (by omega)]; rfl))
            have cr171 := CUR_R hc168 (.inr rfl)
            have cb172 := CUR_b hc168
            have cv173 := CUR_v hc168
            have ck174 := KZ_lt (i := (gq + 1)) hz
            have c1175 := (hc168).1
            have ci176 := hi169
            refine go_to (k := 1) (pc' := 52) (L' := [some (.inr (.inr (some 79))), some (.inl 8)]) (st' := [.inr (.inr (some 79))]) (w' := (SH, dt163)) (fun _ => rfl) ?_
            refine go_call (Q' := _) rfl rfl rfl rfl rfl (sp_X6_product_g L xs sio (d + 0) dt163 hI164 b n t (gq + 1) (by first | exact hbb | (rw [show dt163 85 = dt 85 from funext (hF166 85 (by decide)), show dt163 79 12 = dt 79 12 by omega]; exact hbb)) (by omega) hz ht hc168 hi169 hn5  (by first | trivial | omega) (by first | trivial | omega)) ?_
            rintro _ _ ⟨dt178, rfl, hI179, hF180, h177⟩
            refine ⟨rfl, ?_⟩
            have hF181 : Fr [79, 84] dt dt178 := Fr_tr hF166 hF180 (by decide)
            rcases h177 with ⟨rfl, h177⟩ | ⟨rfl, h177⟩
            · skip
              obtain ⟨h177_0, h177_1, h177_2, h177_3, h177_4⟩ := h177
              have fl182 := RSX_0 h177_0 rfl
              have fe183 : (gE (KF 1 b n) (VF b n)) i = (gT (KF 1 b n) (VF b n)) (gq + 1) := hp170.trans ((show (fun i => gB (gT (KF 1 b n) (VF b n) i) (gQ (KF 1 b n) (VF b n) 600)) (gq + 1) = gB ((gT (KF 1 b n) (VF b n)) (gq + 1)) (gQ (KF 1 b n) (VF b n) 600) by rfl).trans (gB_no fl182.1))
              refine go_ret (k := 3) (r := some (.inl 0)) (w1 := (SH, dt178)) (fun _ => rfl) ?_
              exact ⟨dt178, rfl, hI179, hF181, (Or.inl ⟨rfl, ⟨by exact RSX_f fe183 fl182 (by omega) (by omega), by first | trivial | omega, by first | trivial | omega, by first | trivial | omega, by first | trivial | omega⟩⟩)⟩
            · skip
              obtain ⟨h177_0, h177_1, h177_2, h177_3, h177_4, h177_5, h177_6, h177_7, h177_8, h177_9⟩ := h177
              obtain ⟨j184, ej185, hc186⟩ := RSX_1 h177_0 (by decide)
              have hp187 : (gE (KF 1 b n) (VF b n)) i = (gQ (KF 1 b n) (VF b n) 600) j184 := hp170.trans ((show (fun i => gB (gT (KF 1 b n) (VF b n) i) (gQ (KF 1 b n) (VF b n) 600)) (gq + 1) = gB ((gT (KF 1 b n) (VF b n)) (gq + 1)) (gQ (KF 1 b n) (VF b n) 600) by rfl).trans (by rw [ej185]; rfl))
              have hi188 : j184 ≤ t := by have z := gT_M' (K := (KF 1 b n)) (V := (VF b n)) (i := (gq + 1)) hz; rw [ej185] at z; have y := z rfl; simp only at y; omega
              have cr189 := CUR_R hc186 (.inr rfl)
              have cb190 := CUR_b hc186
              have cv191 := CUR_v hc186
              have ck192 := KZ_lt (i := j184) hz
              have c1193 := (hc186).1
              have ci194 := hi188
              refine go_to (k := 4) (pc' := 63) (L' := [some (.inr (.inr (some 79))), some (.inl 8)]) (st' := [.inl 0, .inl 8, .inr (.inr (some 79))]) (w' := (SH, dt178)) (fun _ => rfl) ?_
              refine go_call (Q' := _) rfl rfl rfl rfl rfl (sp_X6_lay_g L xs sio (d + 8) dt178 hI179  8 ⟨by omega, by omega⟩ 0 ⟨by omega, by omega⟩ (by first | trivial | omega)) ?_
              rintro _ _ ⟨dt196, rfl, hI197, hF198, h195⟩
              refine ⟨rfl, ?_⟩
              have hF199 : Fr [79, 84] dt dt196 := Fr_tr hF181 hF198 (by decide)
              rcases h195 with ⟨rfl, h195⟩
              obtain ⟨h195_0, h195_1, h195_2, h195_3, h195_4, h195_5, h195_6, h195_7, h195_8, h195_9, h195_10⟩ := h195
              have hc200 : CUR 1 b n dt196 j184 := CUR_sm hc186 (by omega) (by omega) (by omega) (by omega)
              refine go_to (k := 1) (pc' := 9) (L' := [some (.inr (.inr (some 79))), some (.inl 8)]) (st' := []) (w' := (SH, dt196)) (fun _ => rfl) ?_
              exact GO.le (ih_loop158  dt196 hI197 hF199 (by first | omega | exact ⟨_, hp187, hc200, hi188⟩) (by first | omega | exact ⟨_, hp187, hc200, hi188⟩) (by first | omega | exact ⟨_, hp187, hc200, hi188⟩) (by first | omega | exact ⟨_, hp187, hc200, hi188⟩) (by first | omega | exact ⟨_, hp187, hc200, hi188⟩) (by first | omega | exact ⟨_, hp187, hc200, hi188⟩) (by first | omega | exact ⟨_, hp187, hc200, hi188⟩) (by first | omega | exact ⟨_, hp187, hc200, hi188⟩) (by first | omega | exact ⟨_, hp187, hc200, hi188⟩) (by first | omega | exact ⟨_, hp187, hc200, hi188⟩) (by omega)) ⟨.inl rfl, .inr ⟨rfl, trivial⟩, trivial⟩
          · skip
            refine go_to (k := 4) (pc' := 48) (L' := [some (.inr (.inr (some 79))), some (.inl 7)]) (st' := [.inr (.inr (some 79))]) (w' := (SH, dt145)) (fun _ => rfl) ?_
            refine go_call (Q' := _) rfl rfl rfl rfl rfl (sp_X6_next0_p1 L xs sio (d + 2) dt145 hI146   (by first | trivial | omega) (by first | trivial | omega)) ?_
            rintro _ _ ⟨dt202, rfl, hI203, hF204, h201⟩
            refine ⟨rfl, ?_⟩
            have hF205 : Fr [79, 84] dt dt202 := Fr_tr hF147 hF204 (by decide)
            rcases h201 with ⟨rfl, h201⟩
            obtain ⟨h201_0, h201_1, h201_2, h201_3, h201_4, h201_5, h201_6, h201_7, h201_8⟩ := h201
            have hq206 := h201_0
            rw [show dt145 85 = dt 85 from funext (hF147 85 (by decide)), show dt145 79 12 = dt 79 12 by omega, hbb, show (dt 79 12).toNat = n by omega] at hq206
            have hc207 : CUR 1 b n dt202 (gq + 1) := CUR_n hcq hq206
            have hi208 : gq + 1 ≤ t := by omega
            have hp209 : (gE (KF 1 b n) (VF b n)) i = (fun i => gB (gT (KF 1 b n) (VF b n) i) (gQ (KF 1 b n) (VF b n) 600)) (gq + 1) := hpq.trans (by show gQ _ _ 600 gq = _; rw [gQ_u hz (by omega) (by omega)]; first | (rw [if_pos (by omega)]; done) | (rw [if_pos (by omega)]; rfl))
            have cr210 := CUR_R hc207 (.inr rfl)
            have cb211 := CUR_b hc207
            have cv212 := CUR_v hc207
            have ck213 := KZ_lt (i := (gq + 1)) hz
            have c1214 := (hc207).1
            have ci215 := hi208
            refine go_to (k := 1) (pc' := 52) (L' := [some (.inr (.inr (some 79))), some (.inl 7)]) (st' := [.inr (.inr (some 79))]) (w' := (SH, dt202)) (fun _ => rfl) ?_
            refine go_call (Q' := _) rfl rfl rfl rfl rfl (sp_X6_product_g L xs sio (d + 0) dt202 hI203 b n t (gq + 1) (by first | exact hbb | (rw [show dt202 85 = dt 85 from funext (hF205 85 (by decide)), show dt202 79 12 = dt 79 12 by omega]; exact hbb)) (by omega) hz ht hc207 hi208 hn5  (by first | trivial | omega) (by first | trivial | omega)) ?_
            rintro _ _ ⟨dt217, rfl, hI218, hF219, h216⟩
            refine ⟨rfl, ?_⟩
            have hF220 : Fr [79, 84] dt dt217 := Fr_tr hF205 hF219 (by decide)
            rcases h216 with ⟨rfl, h216⟩ | ⟨rfl, h216⟩
            · skip
              obtain ⟨h216_0, h216_1, h216_2, h216_3, h216_4⟩ := h216
              have fl221 := RSX_0 h216_0 rfl
              have fe222 : (gE (KF 1 b n) (VF b n)) i = (gT (KF 1 b n) (VF b n)) (gq + 1) := hp209.trans ((show (fun i => gB (gT (KF 1 b n) (VF b n) i) (gQ (KF 1 b n) (VF b n) 600)) (gq + 1) = gB ((gT (KF 1 b n) (VF b n)) (gq + 1)) (gQ (KF 1 b n) (VF b n) 600) by rfl).trans (gB_no fl221.1))
              refine go_ret (k := 3) (r := some (.inl 0)) (w1 := (SH, dt217)) (fun _ => rfl) ?_
              exact ⟨dt217, rfl, hI218, hF220, (Or.inl ⟨rfl, ⟨by exact RSX_f fe222 fl221 (by omega) (by omega), by first | trivial | omega, by first | trivial | omega, by first | trivial | omega, by first | trivial | omega⟩⟩)⟩
            · skip
              obtain ⟨h216_0, h216_1, h216_2, h216_3, h216_4, h216_5, h216_6, h216_7, h216_8, h216_9⟩ := h216
              obtain ⟨j223, ej224, hc225⟩ := RSX_1 h216_0 (by decide)
              have hp226 : (gE (KF 1 b n) (VF b n)) i = (gQ (KF 1 b n) (VF b n) 600) j223 := hp209.trans ((show (fun i => gB (gT (KF 1 b n) (VF b n) i) (gQ (KF 1 b n) (VF b n) 600)) (gq + 1) = gB ((gT (KF 1 b n) (VF b n)) (gq + 1)) (gQ (KF 1 b n) (VF b n) 600) by rfl).trans (by rw [ej224]; rfl))
              have hi227 : j223 ≤ t := by have z := gT_M' (K := (KF 1 b n)) (V := (VF b n)) (i := (gq + 1)) hz; rw [ej224] at z; have y := z rfl; simp only at y; omega
              have cr228 := CUR_R hc225 (.inr rfl)
              have cb229 := CUR_b hc225
              have cv230 := CUR_v hc225
              have ck231 := KZ_lt (i := j223) hz
              have c1232 := (hc225).1
              have ci233 := hi227
              refine go_to (k := 4) (pc' := 63) (L' := [some (.inr (.inr (some 79))), some (.inl 7)]) (st' := [.inl 0, .inl 7, .inr (.inr (some 79))]) (w' := (SH, dt217)) (fun _ => rfl) ?_
              refine go_call (Q' := _) rfl rfl rfl rfl rfl (sp_X6_lay_g L xs sio (d + 8) dt217 hI218  7 ⟨by omega, by omega⟩ 0 ⟨by omega, by omega⟩ (by first | trivial | omega)) ?_
              rintro _ _ ⟨dt235, rfl, hI236, hF237, h234⟩
              refine ⟨rfl, ?_⟩
              have hF238 : Fr [79, 84] dt dt235 := Fr_tr hF220 hF237 (by decide)
              rcases h234 with ⟨rfl, h234⟩
              obtain ⟨h234_0, h234_1, h234_2, h234_3, h234_4, h234_5, h234_6, h234_7, h234_8, h234_9, h234_10⟩ := h234
              have hc239 : CUR 1 b n dt235 j223 := CUR_sm hc225 (by omega) (by omega) (by omega) (by omega)
              refine go_to (k := 1) (pc' := 9) (L' := [some (.inr (.inr (some 79))), some (.inl 7)]) (st' := []) (w' := (SH, dt235)) (fun _ => rfl) ?_
              exact GO.le (ih_loop158  dt235 hI236 hF238 (by first | omega | exact ⟨_, hp226, hc239, hi227⟩) (by first | omega | exact ⟨_, hp226, hc239, hi227⟩) (by first | omega | exact ⟨_, hp226, hc239, hi227⟩) (by first | omega | exact ⟨_, hp226, hc239, hi227⟩) (by first | omega | exact ⟨_, hp226, hc239, hi227⟩) (by first | omega | exact ⟨_, hp226, hc239, hi227⟩) (by first | omega | exact ⟨_, hp226, hc239, hi227⟩) (by first | omega | exact ⟨_, hp226, hc239, hi227⟩) (by first | omega | exact ⟨_, hp226, hc239, hi227⟩) (by first | omega | exact ⟨_, hp226, hc239, hi227⟩) (by omega)) ⟨.inl rfl, .inr ⟨rfl, trivial⟩, trivial⟩
        · skip
          refine go_if (k := 4) (p1 := 69) (p2 := 29) (L' := [some (.inr (.inr (some 79))), none]) (st' := []) (w' := (SH, dt145)) (fun _ => rfl) (c_ne (a := dt145 79 14) (b := 145) ⟨by omega, by omega⟩ ⟨by omega, by omega⟩) (fun c240 => ?_) (fun c240 => ?_)
          · skip
            refine go_ret (k := 2) (r := some (.inl 1)) (w1 := (SH, dt145)) (fun _ => rfl) ?_
            exact ⟨dt145, rfl, hI146, hF147, (Or.inr ⟨rfl, ⟨by exact RSX_ok (hpq.trans (by show gQ _ _ 600 gq = _; rw [gQ_u hz (by omega) (by omega), if_neg (by omega)])) hcq, by first | trivial | omega, by first | trivial | omega, by exact (InvC_get (by assumption) 79 15 rfl rfl).2, by first | trivial | omega, by first | trivial | omega, by first | trivial | omega, by first | trivial | omega, by first | trivial | omega, by first | trivial | omega⟩⟩)⟩
          · skip
            refine go_if (k := 4) (p1 := 44) (p2 := 39) (L' := [some (.inr (.inr (some 79))), none]) (st' := []) (w' := (SH, dt145)) (fun _ => rfl) (c_ne (a := dt145 79 14) (b := 143) ⟨by omega, by omega⟩ ⟨by omega, by omega⟩) (fun c241 => ?_) (fun c241 => ?_)
            · skip
              refine go_to (k := 3) (pc' := 48) (L' := [some (.inr (.inr (some 79))), some (.inl 8)]) (st' := [.inr (.inr (some 79))]) (w' := (SH, dt145)) (fun _ => rfl) ?_
              refine go_call (Q' := _) rfl rfl rfl rfl rfl (sp_X6_next0_p1 L xs sio (d + 2) dt145 hI146   (by first | trivial | omega) (by first | trivial | omega)) ?_
              rintro _ _ ⟨dt243, rfl, hI244, hF245, h242⟩
              refine ⟨rfl, ?_⟩
              have hF246 : Fr [79, 84] dt dt243 := Fr_tr hF147 hF245 (by decide)
              rcases h242 with ⟨rfl, h242⟩
              obtain ⟨h242_0, h242_1, h242_2, h242_3, h242_4, h242_5, h242_6, h242_7, h242_8⟩ := h242
              have hq247 := h242_0
              rw [show dt145 85 = dt 85 from funext (hF147 85 (by decide)), show dt145 79 12 = dt 79 12 by omega, hbb, show (dt 79 12).toNat = n by omega] at hq247
              have hc248 : CUR 1 b n dt243 (gq + 1) := CUR_n hcq hq247
              have hi249 : gq + 1 ≤ t := by omega
              have hp250 : (gE (KF 1 b n) (VF b n)) i = (fun i => gB (gT (KF 1 b n) (VF b n) i) (gQ (KF 1 b n) (VF b n) 600)) (gq + 1) := hpq.trans (by show gQ _ _ 600 gq = _; rw [gQ_u hz (by omega) (by omega)]; first | (rw [if_pos (by omega)]; done) | (rw [if_pos (by omega)]; rfl))
              have cr251 := CUR_R hc248 (.inr rfl)
              have cb252 := CUR_b hc248
              have cv253 := CUR_v hc248
              have ck254 := KZ_lt (i := (gq + 1)) hz
              have c1255 := (hc248).1
              have ci256 := hi249
              refine go_to (k := 1) (pc' := 52) (L' := [some (.inr (.inr (some 79))), some (.inl 8)]) (st' := [.inr (.inr (some 79))]) (w' := (SH, dt243)) (fun _ => rfl) ?_
              refine go_call (Q' := _) rfl rfl rfl rfl rfl (sp_X6_product_g L xs sio (d + 0) dt243 hI244 b n t (gq + 1) (by first | exact hbb | (rw [show dt243 85 = dt 85 from funext (hF246 85 (by decide)), show dt243 79 12 = dt 79 12 by omega]; exact hbb)) (by omega) hz ht hc248 hi249 hn5  (by first | trivial | omega) (by first | trivial | omega)) ?_
              rintro _ _ ⟨dt258, rfl, hI259, hF260, h257⟩
              refine ⟨rfl, ?_⟩
              have hF261 : Fr [79, 84] dt dt258 := Fr_tr hF246 hF260 (by decide)
              rcases h257 with ⟨rfl, h257⟩ | ⟨rfl, h257⟩
              · skip
                obtain ⟨h257_0, h257_1, h257_2, h257_3, h257_4⟩ := h257
                have fl262 := RSX_0 h257_0 rfl
                have fe263 : (gE (KF 1 b n) (VF b n)) i = (gT (KF 1 b n) (VF b n)) (gq + 1) := hp250.trans ((show (fun i => gB (gT (KF 1 b n) (VF b n) i) (gQ (KF 1 b n) (VF b n) 600)) (gq + 1) = gB ((gT (KF 1 b n) (VF b n)) (gq + 1)) (gQ (KF 1 b n) (VF b n) 600) by rfl).trans (gB_no fl262.1))
                refine go_ret (k := 3) (r := some (.inl 0)) (w1 := (SH, dt258)) (fun _ => rfl) ?_
                exact ⟨dt258, rfl, hI259, hF261, (Or.inl ⟨rfl, ⟨by exact RSX_f fe263 fl262 (by omega) (by omega), by first | trivial | omega, by first | trivial | omega, by first | trivial | omega, by first | trivial | omega⟩⟩)⟩
              · skip
                obtain ⟨h257_0, h257_1, h257_2, h257_3, h257_4, h257_5, h257_6, h257_7, h257_8, h257_9⟩ := h257
                obtain ⟨j264, ej265, hc266⟩ := RSX_1 h257_0 (by decide)
                have hp267 : (gE (KF 1 b n) (VF b n)) i = (gQ (KF 1 b n) (VF b n) 600) j264 := hp250.trans ((show (fun i => gB (gT (KF 1 b n) (VF b n) i) (gQ (KF 1 b n) (VF b n) 600)) (gq + 1) = gB ((gT (KF 1 b n) (VF b n)) (gq + 1)) (gQ (KF 1 b n) (VF b n) 600) by rfl).trans (by rw [ej265]; rfl))
                have hi268 : j264 ≤ t := by have z := gT_M' (K := (KF 1 b n)) (V := (VF b n)) (i := (gq + 1)) hz; rw [ej265] at z; have y := z rfl; simp only at y; omega
                have cr269 := CUR_R hc266 (.inr rfl)
                have cb270 := CUR_b hc266
                have cv271 := CUR_v hc266
                have ck272 := KZ_lt (i := j264) hz
                have c1273 := (hc266).1
                have ci274 := hi268
                refine go_to (k := 4) (pc' := 63) (L' := [some (.inr (.inr (some 79))), some (.inl 8)]) (st' := [.inl 0, .inl 8, .inr (.inr (some 79))]) (w' := (SH, dt258)) (fun _ => rfl) ?_
                refine go_call (Q' := _) rfl rfl rfl rfl rfl (sp_X6_lay_g L xs sio (d + 8) dt258 hI259  8 ⟨by omega, by omega⟩ 0 ⟨by omega, by omega⟩ (by first | trivial | omega)) ?_
                rintro _ _ ⟨dt276, rfl, hI277, hF278, h275⟩
                refine ⟨rfl, ?_⟩
                have hF279 : Fr [79, 84] dt dt276 := Fr_tr hF261 hF278 (by decide)
                rcases h275 with ⟨rfl, h275⟩
                obtain ⟨h275_0, h275_1, h275_2, h275_3, h275_4, h275_5, h275_6, h275_7, h275_8, h275_9, h275_10⟩ := h275
                have hc280 : CUR 1 b n dt276 j264 := CUR_sm hc266 (by omega) (by omega) (by omega) (by omega)
                refine go_to (k := 1) (pc' := 9) (L' := [some (.inr (.inr (some 79))), some (.inl 8)]) (st' := []) (w' := (SH, dt276)) (fun _ => rfl) ?_
                exact GO.le (ih_loop158  dt276 hI277 hF279 (by first | omega | exact ⟨_, hp267, hc280, hi268⟩) (by first | omega | exact ⟨_, hp267, hc280, hi268⟩) (by first | omega | exact ⟨_, hp267, hc280, hi268⟩) (by first | omega | exact ⟨_, hp267, hc280, hi268⟩) (by first | omega | exact ⟨_, hp267, hc280, hi268⟩) (by first | omega | exact ⟨_, hp267, hc280, hi268⟩) (by first | omega | exact ⟨_, hp267, hc280, hi268⟩) (by first | omega | exact ⟨_, hp267, hc280, hi268⟩) (by first | omega | exact ⟨_, hp267, hc280, hi268⟩) (by first | omega | exact ⟨_, hp267, hc280, hi268⟩) (by omega)) ⟨.inl rfl, .inr ⟨rfl, trivial⟩, trivial⟩
            · exfalso; omega
    exact GO.le (loop158 _  dt5 hI6 hF8 (by first | omega | exact ⟨_, hp14, hc13, hi15⟩) (by first | omega | exact ⟨_, hp14, hc13, hi15⟩) (by first | omega | exact ⟨_, hp14, hc13, hi15⟩) (by first | omega | exact ⟨_, hp14, hc13, hi15⟩) (by first | omega | exact ⟨_, hp14, hc13, hi15⟩) (by first | omega | exact ⟨_, hp14, hc13, hi15⟩) (by first | omega | exact ⟨_, hp14, hc13, hi15⟩) (by first | omega | exact ⟨_, hp14, hc13, hi15⟩) (by first | omega | exact ⟨_, hp14, hc13, hi15⟩) (by first | omega | exact ⟨_, hp14, hc13, hi15⟩) (Nat.lt_succ_self _)) ⟨.inl rfl, .inl rfl, trivial⟩
set_option maxHeartbeats 8000000 in
set_option maxRecDepth 20000 in
theorem sp_X6_opens_x (L : Nat) (xs : Nat → Int32) (sio : Option Nat) (d : Nat) (dt : Nat → Nat → Int) (hI : InvC dt) (b : Nat → Int) (n t i : Nat) (hbb : mB (dt 85) (dt 79 12) = b) (hnn : dt 79 12 = (n : Int)) (hz : KZ (KF 1 b n) t) (ht : t ≤ 500) (hc : CUR 1 b n dt i) (hi : i ≤ t) (hn5 : n ≤ 500)  (h_p0 : dt 79 9 = 1) (h_p1 : ¬ dt 79 14 = 0) (h_p2 : dt 79 20 = 8) : GO (am_XX L xs sio) (d + 7) 164 0 [some (.inr (.inr (some 79)))] [] (SH, dt) (fun r w2 => ∃ dt2 : Nat → Nat → Int, w2 = (SH, dt2) ∧ InvC dt2 ∧ Fr [79] dt dt2 ∧ ((r = some (.inl 0) ∧ (RSX 1 b n i dt2 0 (g3 i)) ∧ (dt2 79 2 = dt 79 2) ∧ (dt2 79 9 = dt 79 9) ∧ (dt2 79 10 = dt 79 10) ∧ (dt2 79 12 = dt 79 12)))) := by
  have hF : Fr [79] dt dt := Fr_refl
  have r1 : 0 ≤ dt 79 15 ∧ dt 79 15 ≤ 500 := InvC_get hI 79 15 rfl rfl
  have r2 : 0 ≤ dt 79 11 ∧ dt 79 11 ≤ 510 := InvC_get hI 79 11 rfl rfl
  have r3 : 0 ≤ dt 79 10 ∧ dt 79 10 ≤ 24 := InvC_get hI 79 10 rfl rfl
  have r4 : 0 ≤ dt 79 20 ∧ dt 79 20 ≤ 8 := InvC_get hI 79 20 rfl rfl
  have cr0 := CUR_R hc (.inr rfl)
  have cb0 := CUR_b hc
  have cv0 := CUR_v hc
  have ck0 := KZ_lt (i := i) hz
  have c10 := hc.1
  refine go_if (k := 4) (p1 := 15) (p2 := 9) (L' := [some (.inr (.inr (some 79)))]) (st' := []) (w' := (SH, dt)) (fun _ => rfl) (c_ne (a := dt 79 20) (b := 8) ⟨by omega, by omega⟩ ⟨by omega, by omega⟩) (fun c5 => ?_) (fun c5 => ?_)
  · skip
    exfalso; omega
  · skip
    refine go_to (k := 2) (pc' := 11) (L' := [some (.inr (.inr (some 79)))]) (st' := [.inl 3, .inr (.inr (some 79))]) (w' := (SH, dt)) (fun _ => rfl) ?_
    refine go_call (Q' := _) rfl rfl rfl rfl rfl (sp_X6_bad_g L xs sio (d + 6) dt hI  3 ⟨by omega, by omega⟩ ) ?_
    rintro _ _ ⟨dt7, rfl, hI8, hF9, h6⟩
    refine ⟨rfl, ?_⟩
    have hF10 : Fr [79] dt dt7 := Fr_tr hF hF9 (by decide)
    rcases h6 with ⟨rfl, h6⟩
    obtain ⟨h6_0, h6_1, h6_2, h6_3, h6_4, h6_5, h6_6, h6_7, h6_8, h6_9, h6_10, h6_11⟩ := h6
    have hc11 : CUR 1 b n dt7 i := CUR_sm hc (by omega) (by omega) (by omega) (by omega)
    refine go_ret (k := 1) (r := some (.inl 0)) (w1 := (SH, dt7)) (fun _ => rfl) ?_
    exact ⟨dt7, rfl, hI8, hF10, ⟨rfl, ⟨by exact RSX_no (k := 3) (j := i) rfl (by decide) (by omega) (by show _ = ((TP b n i : Nat) : Int); omega), by first | trivial | omega, by first | trivial | omega, by first | trivial | omega, by first | trivial | omega⟩⟩⟩
set_option maxHeartbeats 8000000 in
set_option maxRecDepth 20000 in
theorem sp_X6_opens_o (L : Nat) (xs : Nat → Int32) (sio : Option Nat) (d : Nat) (dt : Nat → Nat → Int) (hI : InvC dt) (b : Nat → Int) (n t i : Nat) (hbb : mB (dt 85) (dt 79 12) = b) (hnn : dt 79 12 = (n : Int)) (hz : KZ (KF 1 b n) t) (ht : t ≤ 500) (hc : CUR 1 b n dt i) (hi : i ≤ t) (hn5 : n ≤ 500)  (h_p0 : dt 79 9 = 1) (h_p1 : ¬ dt 79 14 = 0) (h_p2 : dt 79 20 ≤ 7) : GO (am_XX L xs sio) (d + 7) 164 0 [some (.inr (.inr (some 79)))] [] (SH, dt) (fun r w2 => ∃ dt2 : Nat → Nat → Int, w2 = (SH, dt2) ∧ InvC dt2 ∧ Fr [79] dt dt2 ∧ ((r = some (.inl 1) ∧ (RSX 1 b n i dt2 1 (gOp i)) ∧ (dt2 79 20 = dt 79 20 + 1) ∧ (dt 79 15 + 1 ≤ dt2 79 15) ∧ (dt2 79 15 ≤ 500) ∧ (dt2 79 2 = dt 79 2) ∧ (dt2 79 9 = dt 79 9) ∧ (dt2 79 10 = dt 79 10) ∧ (dt2 79 11 = dt 79 11) ∧ (dt2 79 12 = dt 79 12) ∧ (dt2 79 17 = dt 79 17)))) := by
  have hF : Fr [79] dt dt := Fr_refl
  have r1 : 0 ≤ dt 79 15 ∧ dt 79 15 ≤ 500 := InvC_get hI 79 15 rfl rfl
  have r2 : 0 ≤ dt 79 11 ∧ dt 79 11 ≤ 510 := InvC_get hI 79 11 rfl rfl
  have r3 : 0 ≤ dt 79 10 ∧ dt 79 10 ≤ 24 := InvC_get hI 79 10 rfl rfl
  have r4 : 0 ≤ dt 79 20 ∧ dt 79 20 ≤ 8 := InvC_get hI 79 20 rfl rfl
  have cr0 := CUR_R hc (.inr rfl)
  have cb0 := CUR_b hc
  have cv0 := CUR_v hc
  have ck0 := KZ_lt (i := i) hz
  have c10 := hc.1
  refine go_if (k := 4) (p1 := 15) (p2 := 9) (L' := [some (.inr (.inr (some 79)))]) (st' := []) (w' := (SH, dt)) (fun _ => rfl) (c_ne (a := dt 79 20) (b := 8) ⟨by omega, by omega⟩ ⟨by omega, by omega⟩) (fun c5 => ?_) (fun c5 => ?_)
  · skip
    refine go_to (k := 5) (pc' := 22) (L' := [some (.inr (.inr (some 79)))]) (st' := [.inl ((dt 79 20) + 1), .inr (.inr (some 79))]) (w' := (SH, dt)) (fun _ => rfl) ?_
    have hI6 : InvC (u2 dt 79 20 ((dt 79 20) + 1)) := InvC_u2 hI (lo := 0) (hi := 8) rfl rfl rfl (by omega) (by omega)
    have hF7 : Fr [79] dt (u2 dt 79 20 ((dt 79 20) + 1)) := Fr_u2 hF (by decide)
    have w8 : (u2 dt 79 20 ((dt 79 20) + 1)) 79 2 = dt 79 2 := rfl
    have w9 : (u2 dt 79 20 ((dt 79 20) + 1)) 79 9 = dt 79 9 := rfl
    have w10 : (u2 dt 79 20 ((dt 79 20) + 1)) 79 10 = dt 79 10 := rfl
    have w11 : (u2 dt 79 20 ((dt 79 20) + 1)) 79 11 = dt 79 11 := rfl
    have w12 : (u2 dt 79 20 ((dt 79 20) + 1)) 79 12 = dt 79 12 := rfl
    have w13 : (u2 dt 79 20 ((dt 79 20) + 1)) 79 13 = dt 79 13 := rfl
    have w14 : (u2 dt 79 20 ((dt 79 20) + 1)) 79 14 = dt 79 14 := rfl
    have w15 : (u2 dt 79 20 ((dt 79 20) + 1)) 79 15 = dt 79 15 := rfl
    have w16 : (u2 dt 79 20 ((dt 79 20) + 1)) 79 16 = dt 79 16 := rfl
    have w17 : (u2 dt 79 20 ((dt 79 20) + 1)) 79 17 = dt 79 17 := rfl
    have w18 : (u2 dt 79 20 ((dt 79 20) + 1)) 79 18 = dt 79 18 := rfl
    have w19 : (u2 dt 79 20 ((dt 79 20) + 1)) 79 20 = (dt 79 20) + 1 := rfl
    have hc20 : CUR 1 b n (u2 dt 79 20 ((dt 79 20) + 1)) i := CUR_sm hc rfl rfl rfl rfl
    refine go_smp (L' := [some (.inr (.inr (some 79)))]) (st' := []) (w' := (SH, (u2 dt 79 20 ((dt 79 20) + 1)))) rfl rfl (s_pf rfl rfl rfl rfl ⟨by omega, by omega⟩) ?_
    refine go_to (k := 1) (pc' := 26) (L' := [some (.inr (.inr (some 79)))]) (st' := [.inr (.inr (some 79))]) (w' := (SH, (u2 dt 79 20 ((dt 79 20) + 1)))) (fun _ => rfl) ?_
    refine go_call (Q' := _) rfl rfl rfl rfl rfl (sp_X6_next0_p1 L xs sio (d + 0) (u2 dt 79 20 ((dt 79 20) + 1)) hI6   (by first | trivial | omega) (by first | trivial | omega)) ?_
    rintro _ _ ⟨dt22, rfl, hI23, hF24, h21⟩
    refine ⟨rfl, ?_⟩
    have hF25 : Fr [79] dt dt22 := Fr_tr hF7 hF24 (by decide)
    rcases h21 with ⟨rfl, h21⟩
    obtain ⟨h21_0, h21_1, h21_2, h21_3, h21_4, h21_5, h21_6, h21_7, h21_8⟩ := h21
    have hq26 := h21_0
    rw [show (u2 dt 79 20 ((dt 79 20) + 1)) 85 = dt 85 from funext (hF7 85 (by decide)), show (u2 dt 79 20 ((dt 79 20) + 1)) 79 12 = dt 79 12 by omega, hbb, show (dt 79 12).toNat = n by omega] at hq26
    have hc27 : CUR 1 b n dt22 (i + 1) := CUR_n hc20 hq26
    have hi28 : i + 1 ≤ t := by omega
    have hp29 : gOp i = gOk (i + 1) := (rfl : gOp i = gOp i).trans (by rfl)
    have cr30 := CUR_R hc27 (.inr rfl)
    have cb31 := CUR_b hc27
    have cv32 := CUR_v hc27
    have ck33 := KZ_lt (i := (i + 1)) hz
    have c134 := (hc27).1
    have ci35 := hi28
    refine go_ret (k := 2) (r := some (.inl 1)) (w1 := (SH, dt22)) (fun _ => rfl) ?_
    exact ⟨dt22, rfl, hI23, hF25, ⟨rfl, ⟨by exact RSX_ok hp29 hc27, by first | trivial | omega, by first | trivial | omega, by exact (InvC_get (by assumption) 79 15 rfl rfl).2, by first | trivial | omega, by first | trivial | omega, by first | trivial | omega, by first | trivial | omega, by first | trivial | omega, by first | trivial | omega⟩⟩⟩
  · skip
    exfalso; omega
