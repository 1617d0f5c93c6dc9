set_option maxHeartbeats 8000000 in
set_option maxRecDepth 20000 in
theorem sp_X6_argument_g0 (L : Nat) (xs : Nat → Int32) (sio : Option Nat) (d : Nat) (dt : Nat → Nat → Int) (hI : InvC dt) (b : Nat → Int) (n t i : Nat) (hbb : mB (dt 85) (dt 79 12) = b) (hnn : dt 79 12 = (n : Int)) (hz : KZ (KF 0 b n) t) (ht : t ≤ 500) (hc : CUR 0 b n dt i) (hi : i ≤ t) (hn5 : n ≤ 500) (p1 : Int) (h_p1 : 1 ≤ p1 ∧ p1 ≤ 4) (p2 : Int) (h_p2 : 0 ≤ p2 ∧ p2 ≤ 3) (h_p0 : dt 79 9 = 0) (h_p1 : 0 ≤ dt 79 10 ∧ dt 79 10 ≤ 23) : GO (am_XX L xs sio) (d + 8) 171 0 [some (.inr (.inr (some 79))), some (.inl p1), some (.inl p2)] [] (SH, dt) (fun r w2 => ∃ dt2 : Nat → Nat → Int, w2 = (SH, dt2) ∧ InvC dt2 ∧ Fr [79, 82] dt dt2 ∧ ((r = some (.inl 0) ∧ (RSX 0 b n i dt2 0 ((gA (KF 0 b n) (VF b n) p2) i)) ∧ (dt2 79 2 = dt 79 2) ∧ (dt2 79 9 = dt 79 9) ∧ (dt2 79 10 = dt 79 10) ∧ (dt2 79 12 = dt 79 12)) ∨ (r = some (.inl 1) ∧ (RSX 0 b n i dt2 1 ((gA (KF 0 b n) (VF b n) p2) i)) ∧ (dt2 82 ((5 * (dt 79 10)) + p1).toNat = VF b n i) ∧ (∀ j : Nat, ¬ (j : Int) = 5 * dt 79 10 + p1 → dt2 82 j = dt 82 j) ∧ (dt 79 15 + 1 ≤ dt2 79 15) ∧ (dt2 79 15 ≤ 500) ∧ (dt2 79 2 = dt 79 2) ∧ (dt2 79 9 = dt 79 9) ∧ (dt2 79 10 = dt 79 10) ∧ (dt2 79 11 = dt 79 11) ∧ (dt2 79 12 = dt 79 12) ∧ (dt2 79 17 = dt 79 17) ∧ (dt2 79 20 = dt 79 20)))) := by
  have hF : Fr [79, 82] dt dt := Fr_refl
  have r1 : 0 ≤ dt 79 15 ∧ dt 79 15 ≤ 500 := InvC_get hI 79 15 rfl rfl
  have r2 : 0 ≤ dt 79 11 ∧ dt 79 11 ≤ 510 := InvC_get hI 79 11 rfl rfl
  have r3 : 0 ≤ dt 79 10 ∧ dt 79 10 ≤ 24 := InvC_get hI 79 10 rfl rfl
  have r4 : 0 ≤ dt 79 16 ∧ dt 79 16 ≤ 9999 := InvC_get hI 79 16 rfl rfl
  have cr0 := CUR_R hc (.inl rfl)
  have cb0 := CUR_b hc
  have cv0 := CUR_v hc
  have ck0 := KZ_lt (i := i) hz
  have c10 := hc.1
  refine go_to (k := 10) (pc' := 16) (L' := [some (.inr (.inr (some 79))), some (.inl p1), some (.inl p2)]) (st' := [.inl (dt 79 16), .inl ((5 * (dt 79 10)) + p1), .inr (.inr (some 82))]) (w' := (SH, dt)) (fun _ => rfl) ?_
  have hI5 : InvC (u2 dt 82 (((5 * (dt 79 10)) + p1).toNat) (dt 79 16)) := InvC_u2 hI (lo := -2147483648) (hi := 2147483647) rfl rfl rfl (by omega) (by omega)
  have hF6 : Fr [79, 82] dt (u2 dt 82 (((5 * (dt 79 10)) + p1).toNat) (dt 79 16)) := Fr_u2 hF (by decide)
  have w7 : (u2 dt 82 (((5 * (dt 79 10)) + p1).toNat) (dt 79 16)) 79 2 = dt 79 2 := rfl
  have w8 : (u2 dt 82 (((5 * (dt 79 10)) + p1).toNat) (dt 79 16)) 79 9 = dt 79 9 := rfl
  have w9 : (u2 dt 82 (((5 * (dt 79 10)) + p1).toNat) (dt 79 16)) 79 10 = dt 79 10 := rfl
  have w10 : (u2 dt 82 (((5 * (dt 79 10)) + p1).toNat) (dt 79 16)) 79 11 = dt 79 11 := rfl
  have w11 : (u2 dt 82 (((5 * (dt 79 10)) + p1).toNat) (dt 79 16)) 79 12 = dt 79 12 := rfl
  have w12 : (u2 dt 82 (((5 * (dt 79 10)) + p1).toNat) (dt 79 16)) 79 13 = dt 79 13 := rfl
  have w13 : (u2 dt 82 (((5 * (dt 79 10)) + p1).toNat) (dt 79 16)) 79 14 = dt 79 14 := rfl
  have w14 : (u2 dt 82 (((5 * (dt 79 10)) + p1).toNat) (dt 79 16)) 79 15 = dt 79 15 := rfl
  have w15 : (u2 dt 82 (((5 * (dt 79 10)) + p1).toNat) (dt 79 16)) 79 16 = dt 79 16 := rfl
  have w16 : (u2 dt 82 (((5 * (dt 79 10)) + p1).toNat) (dt 79 16)) 79 17 = dt 79 17 := rfl
  have w17 : (u2 dt 82 (((5 * (dt 79 10)) + p1).toNat) (dt 79 16)) 79 18 = dt 79 18 := rfl
  have w18 : (u2 dt 82 (((5 * (dt 79 10)) + p1).toNat) (dt 79 16)) 79 20 = dt 79 20 := rfl
  have hc19 : CUR 0 b n (u2 dt 82 (((5 * (dt 79 10)) + p1).toNat) (dt 79 16)) i := CUR_sm hc rfl rfl rfl rfl
  refine go_smp (L' := [some (.inr (.inr (some 79))), some (.inl p1), some (.inl p2)]) (st' := []) (w' := (SH, (u2 dt 82 (((5 * (dt 79 10)) + p1).toNat) (dt 79 16)))) rfl rfl (s_iast (n := 120) rfl ⟨by omega, by omega⟩ ⟨by omega, by omega⟩) ?_
  refine go_to (k := 3) (pc' := 20) (L' := [some (.inr (.inr (some 79))), some (.inl p1), some (.inl p2)]) (st' := [.inl p2, .inl 0, .inr (.inr (some 79))]) (w' := (SH, (u2 dt 82 (((5 * (dt 79 10)) + p1).toNat) (dt 79 16)))) (fun _ => rfl) ?_
  refine go_call (Q' := _) rfl rfl rfl rfl rfl (sp_X6_number_g0a L xs sio (d + 0) (u2 dt 82 (((5 * (dt 79 10)) + p1).toNat) (dt 79 16)) hI5 b n t i (by first | exact hbb | (rw [show (u2 dt 82 (((5 * (dt 79 10)) + p1).toNat) (dt 79 16)) 85 = dt 85 from funext (hF6 85 (by decide)), show (u2 dt 82 (((5 * (dt 79 10)) + p1).toNat) (dt 79 16)) 79 12 = dt 79 12 by omega]; exact hbb)) (by omega) hz ht hc19 hi hn5 p2 ⟨by omega, by omega⟩ (by first | trivial | omega)) ?_
  rintro _ _ ⟨dt21, rfl, hI22, hF23, h20⟩
  refine ⟨rfl, ?_⟩
  have hF24 : Fr [79, 82] dt dt21 := Fr_tr hF6 hF23 (by decide)
  rcases h20 with ⟨rfl, h20⟩ | ⟨rfl, h20⟩
  · skip
    obtain ⟨h20_0, h20_1, h20_2, h20_3, h20_4⟩ := h20
    have EQ25 : ∀ j, dt21 82 j = (u2 dt 82 (((5 * (dt 79 10)) + p1).toNat) (dt 79 16)) 82 j := fun j => hF23 82 (by decide) j
    have fl26 := RSX_0 h20_0 rfl
    have fe27 : (gA (KF 0 b n) (VF b n) p2) i = (gA (KF 0 b n) (VF b n) p2) i := (rfl : (gA (KF 0 b n) (VF b n) p2) i = (gA (KF 0 b n) (VF b n) p2) i).trans ((show (gA (KF 0 b n) (VF b n) p2) i = gB ((gA (KF 0 b n) (VF b n) p2) i) gOk by exact gB_id.symm).trans (gB_no fl26.1))
    refine go_ret (k := 1) (r := some (.inl 0)) (w1 := (SH, dt21)) (fun _ => rfl) ?_
    exact ⟨dt21, rfl, hI22, hF24, (Or.inl ⟨rfl, ⟨by exact RSX_f fe27 fl26 (by omega) (by omega), by first | trivial | omega, by first | trivial | omega, by first | trivial | omega, by first | trivial | omega⟩⟩)⟩
  · skip
    obtain ⟨h20_0, h20_1, h20_2, h20_3, h20_4, h20_5, h20_6, h20_7, h20_8, h20_9, h20_10⟩ := h20
    have EQ28 : ∀ j, dt21 82 j = (u2 dt 82 (((5 * (dt 79 10)) + p1).toNat) (dt 79 16)) 82 j := fun j => hF23 82 (by decide) j
    obtain ⟨j29, ej30, hc31⟩ := RSX_1 h20_0 (by decide)
    have hp32 : (gA (KF 0 b n) (VF b n) p2) i = gOk j29 := (rfl : (gA (KF 0 b n) (VF b n) p2) i = (gA (KF 0 b n) (VF b n) p2) i).trans ((show (gA (KF 0 b n) (VF b n) p2) i = gB ((gA (KF 0 b n) (VF b n) p2) i) gOk by exact gB_id.symm).trans (by rw [ej30]; rfl))
    have hi33 : j29 ≤ t := by have z := gA_M (K := (KF 0 b n)) (V := (VF b n)) (m := p2) (i := i) hz; rw [ej30] at z; have y := z rfl; simp only at y; omega
    have cr34 := CUR_R hc31 (.inl rfl)
    have cb35 := CUR_b hc31
    have cv36 := CUR_v hc31
    have ck37 := KZ_lt (i := j29) hz
    have c138 := (hc31).1
    have ci39 := hi33
    refine go_ret (k := 1) (r := some (.inl 1)) (w1 := (SH, dt21)) (fun _ => rfl) ?_
    exact ⟨dt21, rfl, hI22, hF24, (Or.inr ⟨rfl, ⟨by exact RSX_ok hp32 hc31, by rw [EQ28, u2_eq]; exact h20_1, by intro j hj; rw [EQ28 j]; exact u2_ne (by omega), by first | trivial | omega, by exact (InvC_get (by assumption) 79 15 rfl rfl).2, by first | trivial | omega, by first | trivial | omega, by first | trivial | omega, by first | trivial | omega, by first | trivial | omega, by first | trivial | omega, by first | trivial | omega⟩⟩)⟩
set_option maxHeartbeats 8000000 in
set_option maxRecDepth 20000 in
theorem sp_X6_anAct_g0 (L : Nat) (xs : Nat → Int32) (sio : Option Nat) (d : Nat) (dt : Nat → Nat → Int) (hI : InvC dt) (b : Nat → Int) (n t i : Nat) (hbb : mB (dt 85) (dt 79 12) = b) (hnn : dt 79 12 = (n : Int)) (hz : KZ (KF 0 b n) t) (ht : t ≤ 500) (hc : CUR 0 b n dt i) (hi : i ≤ t) (hn5 : n ≤ 500)  (h_p0 : dt 79 9 = 0) (h_p1 : 0 ≤ dt 79 10 ∧ dt 79 10 ≤ 24) : GO (am_XX L xs sio) (d + 9) 172 0 [some (.inr (.inr (some 79))), none] [] (SH, dt) (fun r w2 => ∃ dt2 : Nat → Nat → Int, w2 = (SH, dt2) ∧ InvC dt2 ∧ Fr [79, 82] dt dt2 ∧ ((r = some (.inl 0) ∧ (RSX 0 b n i dt2 0 ((gAF (KF 0 b n) (VF b n) (dt 79 10)) i)) ∧ (dt2 79 2 = dt 79 2) ∧ (dt2 79 9 = dt 79 9) ∧ (dt2 79 12 = dt 79 12)) ∨ (r = some (.inl 1) ∧ (RSX 0 b n i dt2 1 ((gAF (KF 0 b n) (VF b n) (dt 79 10)) i)) ∧ (dt 79 10 ≤ 23) ∧ (ARF (dt2 82) (dt 79 10) (KF 0 b n) (VF b n) i) ∧ (∀ j : Nat, (j : Int) < 5 * dt 79 10 → dt2 82 j = dt 82 j) ∧ (dt 79 15 + 1 ≤ dt2 79 15) ∧ (dt2 79 15 ≤ 500) ∧ (dt2 79 2 = dt 79 2) ∧ (dt2 79 9 = dt 79 9) ∧ (dt2 79 10 = dt 79 10) ∧ (dt2 79 11 = dt 79 11) ∧ (dt2 79 12 = dt 79 12) ∧ (dt2 79 17 = dt 79 17)))) := by
  have hF : Fr [79, 82] dt dt := Fr_refl
  have r1 : 0 ≤ dt 79 15 ∧ dt 79 15 ≤ 500 := InvC_get hI 79 15 rfl rfl
  have r2 : 0 ≤ dt 79 11 ∧ dt 79 11 ≤ 510 := InvC_get hI 79 11 rfl rfl
  have r3 : 0 ≤ dt 79 10 ∧ dt 79 10 ≤ 24 := InvC_get hI 79 10 rfl rfl
  have cr0 := CUR_R hc (.inl rfl)
  have cb0 := CUR_b hc
  have cv0 := CUR_v hc
  have ck0 := KZ_lt (i := i) hz
  have c10 := hc.1
  have r4 : (-2147483648) ≤ dt 79 14 ∧ dt 79 14 ≤ 2147483647 := InvC_get hI 79 14 rfl rfl
  refine go_to (k := 4) (pc' := 8) (L' := [some (.inr (.inr (some 79))), none]) (st' := [.inl 28, .inl 20, .inl (dt 79 14)]) (w' := (SH, dt)) (fun _ => rfl) ?_
  refine go_call (Q' := _) rfl rfl rfl rfl rfl (sp_X6_isIn L xs sio (d + 8) dt hI  (dt 79 14) ⟨by omega, by omega⟩ 20 ⟨by omega, by omega⟩ 28 ⟨by omega, by omega⟩ ) ?_
  rintro _ _ ⟨rfl, h5⟩
  refine ⟨rfl, ?_⟩
  rcases h5 with ⟨rfl, h5⟩ | ⟨rfl, h5⟩
  · skip
    refine go_if (k := 5) (p1 := 35) (p2 := 29) (L' := [some (.inr (.inr (some 79))), none]) (st' := []) (w' := (SH, dt)) (fun _ => rfl) (c_ne (a := dt 79 10) (b := 24) ⟨by omega, by omega⟩ ⟨by omega, by omega⟩) (fun c6 => ?_) (fun c6 => ?_)
    · skip
      refine go_to (k := 5) (pc' := 43) (L' := [some (.inr (.inr (some 79))), some (.inl ((dt 79 14) - 20))]) (st' := []) (w' := (SH, dt)) (fun _ => rfl) ?_
      have hc7 : (dt 79 14) - 20 = 0 ∨ (dt 79 14) - 20 = 1 ∨ (dt 79 14) - 20 = 2 ∨ (dt 79 14) - 20 = 3 ∨ (dt 79 14) - 20 = 4 ∨ (dt 79 14) - 20 = 5 ∨ (dt 79 14) - 20 = 6 ∨ (dt 79 14) - 20 = 7 ∨ (dt 79 14) - 20 = 8 := by omega
      rcases hc7 with hc7 | hc7 | hc7 | hc7 | hc7 | hc7 | hc7 | hc7 | hc7
      · rw [hc7]
        refine go_to (k := 1) (pc' := 44) (L' := [some (.inr (.inr (some 79))), some (.inl 0)]) (st' := [.inr (.inr (some 79))]) (w' := (SH, dt)) (fun _ => rfl) ?_
        refine go_call (Q' := _) rfl rfl rfl rfl rfl (sp_X6_next0_p0 L xs sio (d + 2) dt hI   (by first | trivial | omega) (by first | trivial | omega)) ?_
        rintro _ _ ⟨dt9, rfl, hI10, hF11, h8⟩
        refine ⟨rfl, ?_⟩
        have hF12 : Fr [79, 82] dt dt9 := Fr_tr hF hF11 (by decide)
        rcases h8 with ⟨rfl, h8⟩
        obtain ⟨h8_0, h8_1, h8_2, h8_3, h8_4, h8_5, h8_6, h8_7, h8_8⟩ := h8
        have BL13 : ∀ j : Nat, (j : Int) < 5 * dt 79 10 → dt9 82 j = dt 82 j := fun j hj => (hF11 82 (by decide) j).trans ((fun _ _ => rfl) j hj)
        have hq14 := h8_0
        rw [hbb, show (dt 79 12).toNat = n by omega] at hq14
        have hc15 : CUR 0 b n dt9 (i + 1) := CUR_n hc hq14
        have hi16 : i + 1 ≤ t := by omega
        have hp17 : (gAF (KF 0 b n) (VF b n) (dt 79 10)) i = (gAct (KF 0 b n) (VF b n) 0) (i + 1) := (rfl : (gAF (KF 0 b n) (VF b n) (dt 79 10)) i = (gAF (KF 0 b n) (VF b n) (dt 79 10)) i).trans (by show gAF _ _ _ _ = _; unfold gAF; rw [if_neg (by omega), if_neg (by omega), show (KF 0 b n) i - 1000 = 0 by omega])
        have cr18 := CUR_R hc15 (.inl rfl)
        have cb19 := CUR_b hc15
        have cv20 := CUR_v hc15
        have ck21 := KZ_lt (i := (i + 1)) hz
        have c122 := (hc15).1
        have ci23 := hi16
        have r24 : 0 ≤ dt9 79 10 ∧ dt9 79 10 ≤ 24 := InvC_get hI10 79 10 rfl rfl
        refine go_to (k := 7) (pc' := 58) (L' := [some (.inr (.inr (some 79))), some (.inl 0)]) (st' := [.inl 0, .inl (5 * (dt9 79 10)), .inr (.inr (some 82))]) (w' := (SH, dt9)) (fun _ => rfl) ?_
        have hI25 : InvC (u2 dt9 82 ((5 * (dt9 79 10)).toNat) 0) := InvC_u2 hI10 (lo := -2147483648) (hi := 2147483647) rfl rfl rfl (by omega) (by omega)
        have hF26 : Fr [79, 82] dt (u2 dt9 82 ((5 * (dt9 79 10)).toNat) 0) := Fr_u2 hF12 (by decide)
        have w27 : (u2 dt9 82 ((5 * (dt9 79 10)).toNat) 0) 79 2 = dt9 79 2 := rfl
        have w28 : (u2 dt9 82 ((5 * (dt9 79 10)).toNat) 0) 79 9 = dt9 79 9 := rfl
        have w29 : (u2 dt9 82 ((5 * (dt9 79 10)).toNat) 0) 79 10 = dt9 79 10 := rfl
        have w30 : (u2 dt9 82 ((5 * (dt9 79 10)).toNat) 0) 79 11 = dt9 79 11 := rfl
        have w31 : (u2 dt9 82 ((5 * (dt9 79 10)).toNat) 0) 79 12 = dt9 79 12 := rfl
        have w32 : (u2 dt9 82 ((5 * (dt9 79 10)).toNat) 0) 79 13 = dt9 79 13 := rfl
        have w33 : (u2 dt9 82 ((5 * (dt9 79 10)).toNat) 0) 79 14 = dt9 79 14 := rfl
        have w34 : (u2 dt9 82 ((5 * (dt9 79 10)).toNat) 0) 79 15 = dt9 79 15 := rfl
        have w35 : (u2 dt9 82 ((5 * (dt9 79 10)).toNat) 0) 79 16 = dt9 79 16 := rfl
        have w36 : (u2 dt9 82 ((5 * (dt9 79 10)).toNat) 0) 79 17 = dt9 79 17 := rfl
        have w37 : (u2 dt9 82 ((5 * (dt9 79 10)).toNat) 0) 79 18 = dt9 79 18 := rfl
        have w38 : (u2 dt9 82 ((5 * (dt9 79 10)).toNat) 0) 79 20 = dt9 79 20 := rfl
        have BL39 : ∀ j : Nat, (j : Int) < 5 * dt 79 10 → (u2 dt9 82 ((5 * (dt9 79 10)).toNat) 0) 82 j = dt 82 j := fun j hj => (u2_ne (by omega)).trans (BL13 j hj)
        have Y40 : (u2 dt9 82 ((5 * (dt9 79 10)).toNat) 0) 82 (5 * (dt 79 10)).toNat = 0 := by rw [show (5 * (dt 79 10)).toNat = (5 * (dt9 79 10)).toNat by omega]; exact u2_eq
        have hc41 : CUR 0 b n (u2 dt9 82 ((5 * (dt9 79 10)).toNat) 0) (i + 1) := CUR_sm hc15 rfl rfl rfl rfl
        refine go_smp (L' := [some (.inr (.inr (some 79))), some (.inl 0)]) (st' := []) (w' := (SH, (u2 dt9 82 ((5 * (dt9 79 10)).toNat) 0))) rfl rfl (s_iast (n := 120) rfl ⟨by omega, by omega⟩ ⟨by omega, by omega⟩) ?_
        refine go_to (k := 6) (pc' := 72) (L' := [some (.inr (.inr (some 79))), some (.inl 0)]) (st' := [.inl 3, .inl 1, .inr (.inr (some 79))]) (w' := (SH, (u2 dt9 82 ((5 * (dt9 79 10)).toNat) 0))) (fun _ => rfl) ?_
        refine go_call (Q' := _) rfl rfl rfl rfl rfl (sp_X6_argument_g0 L xs sio (d + 0) (u2 dt9 82 ((5 * (dt9 79 10)).toNat) 0) hI25 b n t (i + 1) (by first | exact hbb | (rw [show (u2 dt9 82 ((5 * (dt9 79 10)).toNat) 0) 85 = dt 85 from funext (hF26 85 (by decide)), show (u2 dt9 82 ((5 * (dt9 79 10)).toNat) 0) 79 12 = dt 79 12 by omega]; exact hbb)) (by omega) hz ht hc41 hi16 hn5 1 ⟨by omega, by omega⟩ 3 ⟨by omega, by omega⟩ (by first | trivial | omega) (by first | trivial | omega)) ?_
        rintro _ _ ⟨dt43, rfl, hI44, hF45, h42⟩
        refine ⟨rfl, ?_⟩
        have hF46 : Fr [79, 82] dt dt43 := Fr_tr hF26 hF45 (by decide)
        rcases h42 with ⟨rfl, h42⟩ | ⟨rfl, h42⟩
        · skip
          obtain ⟨h42_0, h42_1, h42_2, h42_3, h42_4⟩ := h42
          have fl47 := RSX_0 h42_0 rfl
          have fe48 : (gAF (KF 0 b n) (VF b n) (dt 79 10)) i = (gA (KF 0 b n) (VF b n) 3) (i + 1) := hp17.trans ((show (gAct (KF 0 b n) (VF b n) 0) (i + 1) = gB ((gA (KF 0 b n) (VF b n) 3) (i + 1)) (hA0 (KF 0 b n) (VF b n) 0 ((VF b n) (i + 1))) by exact hAc_n (by decide)).trans (gB_no fl47.1))
          refine go_ret (k := 3) (r := some (.inl 0)) (w1 := (SH, dt43)) (fun _ => rfl) ?_
          exact ⟨dt43, rfl, hI44, hF46, (Or.inl ⟨rfl, ⟨by first | exact RSX_f fe48 fl47 (by omega) (by omega) | exact RSX_no (k := 1) (j := (i + 1)) (hp17.trans (by show gAF _ _ _ _ = _; unfold gAF; rw [if_pos (by omega)])) (by decide) (by omega) (by show _ = ((TP b n (i + 1) : Nat) : Int); omega) | exact RSX_no (k := 3) (j := (i + 1)) (hp17.trans (by show gAF _ _ _ _ = _; unfold gAF; rw [if_neg (by omega), if_pos (by omega)])) (by decide) (by omega) (by show _ = ((TP b n (i + 1) : Nat) : Int); omega) | exact RSX_no (k := 2) (j := (i + 1)) (hp17.trans (by exact (hA0_p rfl).trans (by unfold gOt; rw [if_pos (by omega)]; rfl))) (by decide) (by omega) (by show _ = ((TP b n (i + 1) : Nat) : Int); omega), by first | trivial | omega, by first | trivial | omega, by first | trivial | omega⟩⟩)⟩
        · skip
          obtain ⟨h42_0, h42_1, h42_2, h42_3, h42_4, h42_5, h42_6, h42_7, h42_8, h42_9, h42_10, h42_11⟩ := h42
          have ee49 : (u2 dt9 82 ((5 * (dt9 79 10)).toNat) 0) 79 10 = dt 79 10 := by omega
          rw [ee49] at h42_1 h42_2
          have BL50 : ∀ j : Nat, (j : Int) < 5 * dt 79 10 → dt43 82 j = dt 82 j := fun j hj => (h42_2 j (by omega)).trans (BL39 j hj)
          have Y51 := (h42_2 _ (by omega)).trans Y40
          have Y52 := h42_1
          obtain ⟨j53, ej54, hc55⟩ := RSX_1 h42_0 (by decide)
          have hp56 : (gAF (KF 0 b n) (VF b n) (dt 79 10)) i = (hA0 (KF 0 b n) (VF b n) 0 ((VF b n) (i + 1))) j53 := hp17.trans ((show (gAct (KF 0 b n) (VF b n) 0) (i + 1) = gB ((gA (KF 0 b n) (VF b n) 3) (i + 1)) (hA0 (KF 0 b n) (VF b n) 0 ((VF b n) (i + 1))) by exact hAc_n (by decide)).trans (by rw [ej54]; rfl))
          have hi57 : j53 ≤ t := by have z := gA_M (K := (KF 0 b n)) (V := (VF b n)) (m := 3) (i := (i + 1)) hz; rw [ej54] at z; have y := z rfl; simp only at y; omega
          have cr58 := CUR_R hc55 (.inl rfl)
          have cb59 := CUR_b hc55
          have cv60 := CUR_v hc55
          have ck61 := KZ_lt (i := j53) hz
          have c162 := (hc55).1
          have ci63 := hi57
          have ej64 : j53 = (i + 1) + 1 := by have z_ := gA_at (K := (KF 0 b n)) (V := (VF b n)) (m := 3) (i := (i + 1)) (by rw [ej54]); rw [ej54] at z_; exact z_
          refine go_to (k := 30) (pc' := 208) (L' := [some (.inr (.inr (some 79))), some (.inl 0)]) (st' := [.inl 159, .inr (.inr (some 79))]) (w' := (SH, dt43)) (fun _ => rfl) ?_
          refine go_call (Q' := _) rfl rfl rfl rfl rfl (sp_X6_need0_g0 L xs sio (d + 1) dt43 hI44 b n t j53 (by first | exact hbb | (rw [show dt43 85 = dt 85 from funext (hF46 85 (by decide)), show dt43 79 12 = dt 79 12 by omega]; exact hbb)) (by omega) hz ht hc55 hi57 hn5 159 ⟨by omega, by omega⟩ (by first | trivial | omega)) ?_
          rintro _ _ ⟨dt66, rfl, hI67, hF68, h65⟩
          refine ⟨rfl, ?_⟩
          have hF69 : Fr [79, 82] dt dt66 := Fr_tr hF46 hF68 (by decide)
          rcases h65 with ⟨rfl, h65⟩ | ⟨rfl, h65⟩
          · skip
            obtain ⟨h65_0, h65_1, h65_2, h65_3, h65_4⟩ := h65
            have BL70 : ∀ j : Nat, (j : Int) < 5 * dt 79 10 → dt66 82 j = dt 82 j := fun j hj => (hF68 82 (by decide) j).trans (BL50 j hj)
            have Y71 := (hF68 82 (by decide) _).trans Y51
            have Y72 := (hF68 82 (by decide) _).trans Y52
            have fl73 := RSX_0 h65_0 rfl
            have fe74 : (gAF (KF 0 b n) (VF b n) (dt 79 10)) i = (gK (KF 0 b n) (159 - 100)) j53 := hp56.trans ((show (hA0 (KF 0 b n) (VF b n) 0 ((VF b n) (i + 1))) j53 = gB ((gK (KF 0 b n) (159 - 100)) j53) gOk by first | exact gB_id.symm | ((repeat (first | rw [hA0_n (by decide)] | rw [hA1_n (by decide)] | rw [hA2_n (by decide)] | rw [hA3_n (by decide)])); exact gB_id.symm)).trans (gB_no fl73.1))
            refine go_ret (k := 1) (r := some (.inl 0)) (w1 := (SH, dt66)) (fun _ => rfl) ?_
            exact ⟨dt66, rfl, hI67, hF69, (Or.inl ⟨rfl, ⟨by first | exact RSX_f fe74 fl73 (by omega) (by omega) | exact RSX_no (k := 1) (j := j53) (hp56.trans (by show gAF _ _ _ _ = _; unfold gAF; rw [if_pos (by omega)])) (by decide) (by omega) (by show _ = ((TP b n j53 : Nat) : Int); omega) | exact RSX_no (k := 3) (j := j53) (hp56.trans (by show gAF _ _ _ _ = _; unfold gAF; rw [if_neg (by omega), if_pos (by omega)])) (by decide) (by omega) (by show _ = ((TP b n j53 : Nat) : Int); omega) | exact RSX_no (k := 2) (j := j53) (hp56.trans (by exact (hA0_p rfl).trans (by unfold gOt; rw [if_pos (by omega)]; rfl))) (by decide) (by omega) (by show _ = ((TP b n j53 : Nat) : Int); omega), by first | trivial | omega, by first | trivial | omega, by first | trivial | omega⟩⟩)⟩
          · skip
            obtain ⟨h65_0, h65_1, h65_2, h65_3, h65_4, h65_5, h65_6, h65_7, h65_8, h65_9⟩ := h65
            have BL75 : ∀ j : Nat, (j : Int) < 5 * dt 79 10 → dt66 82 j = dt 82 j := fun j hj => (hF68 82 (by decide) j).trans (BL50 j hj)
            have Y76 := (hF68 82 (by decide) _).trans Y51
            have Y77 := (hF68 82 (by decide) _).trans Y52
            obtain ⟨j78, ej79, hc80⟩ := RSX_1 h65_0 (by decide)
            have hp81 : (gAF (KF 0 b n) (VF b n) (dt 79 10)) i = gOk j78 := hp56.trans ((show (hA0 (KF 0 b n) (VF b n) 0 ((VF b n) (i + 1))) j53 = gB ((gK (KF 0 b n) (159 - 100)) j53) gOk by first | exact gB_id.symm | ((repeat (first | rw [hA0_n (by decide)] | rw [hA1_n (by decide)] | rw [hA2_n (by decide)] | rw [hA3_n (by decide)])); exact gB_id.symm)).trans (by rw [ej79]; rfl))
            have hi82 : j78 ≤ t := by have z := (fun (h : KZ (KF 0 b n) t) => gK_M (K := (KF 0 b n)) (k := 159 - 100) (i := j53) h (by decide)) hz; rw [ej79] at z; have y := z rfl; simp only at y; omega
            have cr83 := CUR_R hc80 (.inl rfl)
            have cb84 := CUR_b hc80
            have cv85 := CUR_v hc80
            have ck86 := KZ_lt (i := j78) hz
            have c187 := (hc80).1
            have ci88 := hi82
            refine go_ret (k := 1) (r := some (.inl 1)) (w1 := (SH, dt66)) (fun _ => rfl) ?_
            exact ⟨dt66, rfl, hI67, hF69, (Or.inr ⟨rfl, ⟨by exact RSX_ok hp81 hc80, by first | trivial | omega, by unfold ARF ATT ABB; exact ⟨by rw [Y76]; omega, (by first | exact Y77.trans (congrArg (VF b n) (by omega)) | (rw [Y77]; congr 1; omega)), fun z_ => by first | (exfalso; omega) | (rw [if_pos (by omega)]; exact (by first | exact hI.trans (congrArg (VF b n) (by omega)) | (rw [hI]; congr 1; omega))) | (rw [if_neg (by omega)]; exact (by first | exact hI.trans (congrArg (VF b n) (by omega)) | (rw [hI]; congr 1; omega))), fun z_ => by first | (exfalso; omega) | (rw [if_pos (by omega)]; exact (by first | exact hI.trans (congrArg (VF b n) (by omega)) | (rw [hI]; congr 1; omega))) | (rw [if_neg (by omega), if_pos (by omega)]; exact (by first | exact hI.trans (congrArg (VF b n) (by omega)) | (rw [hI]; congr 1; omega))) | (rw [if_neg (by omega), if_neg (by omega)]; exact (by first | exact hI.trans (congrArg (VF b n) (by omega)) | (rw [hI]; congr 1; omega))), fun z_ => by first | (exfalso; omega) | exact (by first | exact hI.trans (congrArg (VF b n) (by omega)) | (rw [hI]; congr 1; omega)), fun z_ => by first | (exfalso; omega) | exact (by first | exact hI.trans (congrArg (VF b n) (by omega)) | (rw [hI]; congr 1; omega))⟩, by exact BL75, by first | trivial | omega, by exact (InvC_get (by assumption) 79 15 rfl rfl).2, by first | trivial | omega, by first | trivial | omega, by first | trivial | omega, by first | trivial | omega, by first | trivial | omega, by first | trivial | omega⟩⟩)⟩
      · rw [hc7]
        refine go_to (k := 1) (pc' := 44) (L' := [some (.inr (.inr (some 79))), some (.inl 1)]) (st' := [.inr (.inr (some 79))]) (w' := (SH, dt)) (fun _ => rfl) ?_
        refine go_call (Q' := _) rfl rfl rfl rfl rfl (sp_X6_next0_p0 L xs sio (d + 2) dt hI   (by first | trivial | omega) (by first | trivial | omega)) ?_
        rintro _ _ ⟨dt90, rfl, hI91, hF92, h89⟩
        refine ⟨rfl, ?_⟩
        have hF93 : Fr [79, 82] dt dt90 := Fr_tr hF hF92 (by decide)
        rcases h89 with ⟨rfl, h89⟩
        obtain ⟨h89_0, h89_1, h89_2, h89_3, h89_4, h89_5, h89_6, h89_7, h89_8⟩ := h89
        have BL94 : ∀ j : Nat, (j : Int) < 5 * dt 79 10 → dt90 82 j = dt 82 j := fun j hj => (hF92 82 (by decide) j).trans ((fun _ _ => rfl) j hj)
        have hq95 := h89_0
        rw [hbb, show (dt 79 12).toNat = n by omega] at hq95
        have hc96 : CUR 0 b n dt90 (i + 1) := CUR_n hc hq95
        have hi97 : i + 1 ≤ t := by omega
        have hp98 : (gAF (KF 0 b n) (VF b n) (dt 79 10)) i = (gAct (KF 0 b n) (VF b n) 1) (i + 1) := (rfl : (gAF (KF 0 b n) (VF b n) (dt 79 10)) i = (gAF (KF 0 b n) (VF b n) (dt 79 10)) i).trans (by show gAF _ _ _ _ = _; unfold gAF; rw [if_neg (by omega), if_neg (by omega), show (KF 0 b n) i - 1000 = 1 by omega])
        have cr99 := CUR_R hc96 (.inl rfl)
        have cb100 := CUR_b hc96
        have cv101 := CUR_v hc96
        have ck102 := KZ_lt (i := (i + 1)) hz
        have c1103 := (hc96).1
        have ci104 := hi97
        have r105 : 0 ≤ dt90 79 10 ∧ dt90 79 10 ≤ 24 := InvC_get hI91 79 10 rfl rfl
        refine go_to (k := 7) (pc' := 58) (L' := [some (.inr (.inr (some 79))), some (.inl 1)]) (st' := [.inl 1, .inl (5 * (dt90 79 10)), .inr (.inr (some 82))]) (w' := (SH, dt90)) (fun _ => rfl) ?_
        have hI106 : InvC (u2 dt90 82 ((5 * (dt90 79 10)).toNat) 1) := InvC_u2 hI91 (lo := -2147483648) (hi := 2147483647) rfl rfl rfl (by omega) (by omega)
        have hF107 : Fr [79, 82] dt (u2 dt90 82 ((5 * (dt90 79 10)).toNat) 1) := Fr_u2 hF93 (by decide)
        have w108 : (u2 dt90 82 ((5 * (dt90 79 10)).toNat) 1) 79 2 = dt90 79 2 := rfl
        have w109 : (u2 dt90 82 ((5 * (dt90 79 10)).toNat) 1) 79 9 = dt90 79 9 := rfl
        have w110 : (u2 dt90 82 ((5 * (dt90 79 10)).toNat) 1) 79 10 = dt90 79 10 := rfl
        have w111 : (u2 dt90 82 ((5 * (dt90 79 10)).toNat) 1) 79 11 = dt90 79 11 := rfl
        have w112 : (u2 dt90 82 ((5 * (dt90 79 10)).toNat) 1) 79 12 = dt90 79 12 := rfl
        have w113 : (u2 dt90 82 ((5 * (dt90 79 10)).toNat) 1) 79 13 = dt90 79 13 := rfl
        have w114 : (u2 dt90 82 ((5 * (dt90 79 10)).toNat) 1) 79 14 = dt90 79 14 := rfl
        have w115 : (u2 dt90 82 ((5 * (dt90 79 10)).toNat) 1) 79 15 = dt90 79 15 := rfl
        have w116 : (u2 dt90 82 ((5 * (dt90 79 10)).toNat) 1) 79 16 = dt90 79 16 := rfl
        have w117 : (u2 dt90 82 ((5 * (dt90 79 10)).toNat) 1) 79 17 = dt90 79 17 := rfl
        have w118 : (u2 dt90 82 ((5 * (dt90 79 10)).toNat) 1) 79 18 = dt90 79 18 := rfl
        have w119 : (u2 dt90 82 ((5 * (dt90 79 10)).toNat) 1) 79 20 = dt90 79 20 := rfl
        have BL120 : ∀ j : Nat, (j : Int) < 5 * dt 79 10 → (u2 dt90 82 ((5 * (dt90 79 10)).toNat) 1) 82 j = dt 82 j := fun j hj => (u2_ne (by omega)).trans (BL94 j hj)
        have Y121 : (u2 dt90 82 ((5 * (dt90 79 10)).toNat) 1) 82 (5 * (dt 79 10)).toNat = 1 := by rw [show (5 * (dt 79 10)).toNat = (5 * (dt90 79 10)).toNat by omega]; exact u2_eq
        have hc122 : CUR 0 b n (u2 dt90 82 ((5 * (dt90 79 10)).toNat) 1) (i + 1) := CUR_sm hc96 rfl rfl rfl rfl
        refine go_smp (L' := [some (.inr (.inr (some 79))), some (.inl 1)]) (st' := []) (w' := (SH, (u2 dt90 82 ((5 * (dt90 79 10)).toNat) 1))) rfl rfl (s_iast (n := 120) rfl ⟨by omega, by omega⟩ ⟨by omega, by omega⟩) ?_
        refine go_to (k := 6) (pc' := 72) (L' := [some (.inr (.inr (some 79))), some (.inl 1)]) (st' := [.inl 3, .inl 1, .inr (.inr (some 79))]) (w' := (SH, (u2 dt90 82 ((5 * (dt90 79 10)).toNat) 1))) (fun _ => rfl) ?_
        refine go_call (Q' := _) rfl rfl rfl rfl rfl (sp_X6_argument_g0 L xs sio (d + 0) (u2 dt90 82 ((5 * (dt90 79 10)).toNat) 1) hI106 b n t (i + 1) (by first | exact hbb | (rw [show (u2 dt90 82 ((5 * (dt90 79 10)).toNat) 1) 85 = dt 85 from funext (hF107 85 (by decide)), show (u2 dt90 82 ((5 * (dt90 79 10)).toNat) 1) 79 12 = dt 79 12 by omega]; exact hbb)) (by omega) hz ht hc122 hi97 hn5 1 ⟨by omega, by omega⟩ 3 ⟨by omega, by omega⟩ (by first | trivial | omega) (by first | trivial | omega)) ?_
        rintro _ _ ⟨dt124, rfl, hI125, hF126, h123⟩
        refine ⟨rfl, ?_⟩
        have hF127 : Fr [79, 82] dt dt124 := Fr_tr hF107 hF126 (by decide)
        rcases h123 with ⟨rfl, h123⟩ | ⟨rfl, h123⟩
        · skip
          obtain ⟨h123_0, h123_1, h123_2, h123_3, h123_4⟩ := h123
          have fl128 := RSX_0 h123_0 rfl
          have fe129 : (gAF (KF 0 b n) (VF b n) (dt 79 10)) i = (gA (KF 0 b n) (VF b n) 3) (i + 1) := hp98.trans ((show (gAct (KF 0 b n) (VF b n) 1) (i + 1) = gB ((gA (KF 0 b n) (VF b n) 3) (i + 1)) (hA0 (KF 0 b n) (VF b n) 1 ((VF b n) (i + 1))) by exact hAc_n (by decide)).trans (gB_no fl128.1))
          refine go_ret (k := 3) (r := some (.inl 0)) (w1 := (SH, dt124)) (fun _ => rfl) ?_
          exact ⟨dt124, rfl, hI125, hF127, (Or.inl ⟨rfl, ⟨by first | exact RSX_f fe129 fl128 (by omega) (by omega) | exact RSX_no (k := 1) (j := (i + 1)) (hp98.trans (by show gAF _ _ _ _ = _; unfold gAF; rw [if_pos (by omega)])) (by decide) (by omega) (by show _ = ((TP b n (i + 1) : Nat) : Int); omega) | exact RSX_no (k := 3) (j := (i + 1)) (hp98.trans (by show gAF _ _ _ _ = _; unfold gAF; rw [if_neg (by omega), if_pos (by omega)])) (by decide) (by omega) (by show _ = ((TP b n (i + 1) : Nat) : Int); omega) | exact RSX_no (k := 2) (j := (i + 1)) (hp98.trans (by exact (hA0_p rfl).trans (by unfold gOt; rw [if_pos (by omega)]; rfl))) (by decide) (by omega) (by show _ = ((TP b n (i + 1) : Nat) : Int); omega), by first | trivial | omega, by first | trivial | omega, by first | trivial | omega⟩⟩)⟩
        · skip
          obtain ⟨h123_0, h123_1, h123_2, h123_3, h123_4, h123_5, h123_6, h123_7, h123_8, h123_9, h123_10, h123_11⟩ := h123
          have ee130 : (u2 dt90 82 ((5 * (dt90 79 10)).toNat) 1) 79 10 = dt 79 10 := by omega
          rw [ee130] at h123_1 h123_2
          have BL131 : ∀ j : Nat, (j : Int) < 5 * dt 79 10 → dt124 82 j = dt 82 j := fun j hj => (h123_2 j (by omega)).trans (BL120 j hj)
          have Y132 := (h123_2 _ (by omega)).trans Y121
          have Y133 := h123_1
          obtain ⟨j134, ej135, hc136⟩ := RSX_1 h123_0 (by decide)
          have hp137 : (gAF (KF 0 b n) (VF b n) (dt 79 10)) i = (hA0 (KF 0 b n) (VF b n) 1 ((VF b n) (i + 1))) j134 := hp98.trans ((show (gAct (KF 0 b n) (VF b n) 1) (i + 1) = gB ((gA (KF 0 b n) (VF b n) 3) (i + 1)) (hA0 (KF 0 b n) (VF b n) 1 ((VF b n) (i + 1))) by exact hAc_n (by decide)).trans (by rw [ej135]; rfl))
          have hi138 : j134 ≤ t := by have z := gA_M (K := (KF 0 b n)) (V := (VF b n)) (m := 3) (i := (i + 1)) hz; rw [ej135] at z; have y := z rfl; simp only at y; omega
          have cr139 := CUR_R hc136 (.inl rfl)
          have cb140 := CUR_b hc136
          have cv141 := CUR_v hc136
          have ck142 := KZ_lt (i := j134) hz
          have c1143 := (hc136).1
          have ci144 := hi138
          have ej145 : j134 = (i + 1) + 1 := by have z_ := gA_at (K := (KF 0 b n)) (V := (VF b n)) (m := 3) (i := (i + 1)) (by rw [ej135]); rw [ej135] at z_; exact z_
          refine go_to (k := 30) (pc' := 208) (L' := [some (.inr (.inr (some 79))), some (.inl 1)]) (st' := [.inl 159, .inr (.inr (some 79))]) (w' := (SH, dt124)) (fun _ => rfl) ?_
          refine go_call (Q' := _) rfl rfl rfl rfl rfl (sp_X6_need0_g0 L xs sio (d + 1) dt124 hI125 b n t j134 (by first | exact hbb | (rw [show dt124 85 = dt 85 from funext (hF127 85 (by decide)), show dt124 79 12 = dt 79 12 by omega]; exact hbb)) (by omega) hz ht hc136 hi138 hn5 159 ⟨by omega, by omega⟩ (by first | trivial | omega)) ?_
          rintro _ _ ⟨dt147, rfl, hI148, hF149, h146⟩
          refine ⟨rfl, ?_⟩
          have hF150 : Fr [79, 82] dt dt147 := Fr_tr hF127 hF149 (by decide)
          rcases h146 with ⟨rfl, h146⟩ | ⟨rfl, h146⟩
          · skip
            obtain ⟨h146_0, h146_1, h146_2, h146_3, h146_4⟩ := h146
            have BL151 : ∀ j : Nat, (j : Int) < 5 * dt 79 10 → dt147 82 j = dt 82 j := fun j hj => (hF149 82 (by decide) j).trans (BL131 j hj)
            have Y152 := (hF149 82 (by decide) _).trans Y132
            have Y153 := (hF149 82 (by decide) _).trans Y133
            have fl154 := RSX_0 h146_0 rfl
            have fe155 : (gAF (KF 0 b n) (VF b n) (dt 79 10)) i = (gK (KF 0 b n) (159 - 100)) j134 := hp137.trans ((show (hA0 (KF 0 b n) (VF b n) 1 ((VF b n) (i + 1))) j134 = gB ((gK (KF 0 b n) (159 - 100)) j134) gOk by first | exact gB_id.symm | ((repeat (first | rw [hA0_n (by decide)] | rw [hA1_n (by decide)] | rw [hA2_n (by decide)] | rw [hA3_n (by decide)])); exact gB_id.symm)).trans (gB_no fl154.1))
            refine go_ret (k := 1) (r := some (.inl 0)) (w1 := (SH, dt147)) (fun _ => rfl) ?_
            exact ⟨dt147, rfl, hI148, hF150, (Or.inl ⟨rfl, ⟨by first | exact RSX_f fe155 fl154 (by omega) (by omega) | exact RSX_no (k := 1) (j := j134) (hp137.trans (by show gAF _ _ _ _ = _; unfold gAF; rw [if_pos (by omega)])) (by decide) (by omega) (by show _ = ((TP b n j134 : Nat) : Int); omega) | exact RSX_no (k := 3) (j := j134) (hp137.trans (by show gAF _ _ _ _ = _; unfold gAF; rw [if_neg (by omega), if_pos (by omega)])) (by decide) (by omega) (by show _ = ((TP b n j134 : Nat) : Int); omega) | exact RSX_no (k := 2) (j := j134) (hp137.trans (by exact (hA0_p rfl).trans (by unfold gOt; rw [if_pos (by omega)]; rfl))) (by decide) (by omega) (by show _ = ((TP b n j134 : Nat) : Int); omega), by first | trivial | omega, by first | trivial | omega, by first | trivial | omega⟩⟩)⟩
          · skip
            obtain ⟨h146_0, h146_1, h146_2, h146_3, h146_4, h146_5, h146_6, h146_7, h146_8, h146_9⟩ := h146
            have BL156 : ∀ j : Nat, (j : Int) < 5 * dt 79 10 → dt147 82 j = dt 82 j := fun j hj => (hF149 82 (by decide) j).trans (BL131 j hj)
            have Y157 := (hF149 82 (by decide) _).trans Y132
            have Y158 := (hF149 82 (by decide) _).trans Y133
            obtain ⟨j159, ej160, hc161⟩ := RSX_1 h146_0 (by decide)
            have hp162 : (gAF (KF 0 b n) (VF b n) (dt 79 10)) i = gOk j159 := hp137.trans ((show (hA0 (KF 0 b n) (VF b n) 1 ((VF b n) (i + 1))) j134 = gB ((gK (KF 0 b n) (159 - 100)) j134) gOk by first | exact gB_id.symm | ((repeat (first | rw [hA0_n (by decide)] | rw [hA1_n (by decide)] | rw [hA2_n (by decide)] | rw [hA3_n (by decide)])); exact gB_id.symm)).trans (by rw [ej160]; rfl))
            have hi163 : j159 ≤ t := by have z := (fun (h : KZ (KF 0 b n) t) => gK_M (K := (KF 0 b n)) (k := 159 - 100) (i := j134) h (by decide)) hz; rw [ej160] at z; have y := z rfl; simp only at y; omega
            have cr164 := CUR_R hc161 (.inl rfl)
            have cb165 := CUR_b hc161
            have cv166 := CUR_v hc161
            have ck167 := KZ_lt (i := j159) hz
            have c1168 := (hc161).1
            have ci169 := hi163
            refine go_ret (k := 1) (r := some (.inl 1)) (w1 := (SH, dt147)) (fun _ => rfl) ?_
            exact ⟨dt147, rfl, hI148, hF150, (Or.inr ⟨rfl, ⟨by exact RSX_ok hp162 hc161, by first | trivial | omega, by unfold ARF ATT ABB; exact ⟨by rw [Y157]; omega, (by first | exact Y158.trans (congrArg (VF b n) (by omega)) | (rw [Y158]; congr 1; omega)), fun z_ => by first | (exfalso; omega) | (rw [if_pos (by omega)]; exact (by first | exact hI.trans (congrArg (VF b n) (by omega)) | (rw [hI]; congr 1; omega))) | (rw [if_neg (by omega)]; exact (by first | exact hI.trans (congrArg (VF b n) (by omega)) | (rw [hI]; congr 1; omega))), fun z_ => by first | (exfalso; omega) | (rw [if_pos (by omega)]; exact (by first | exact hI.trans (congrArg (VF b n) (by omega)) | (rw [hI]; congr 1; omega))) | (rw [if_neg (by omega), if_pos (by omega)]; exact (by first | exact hI.trans (congrArg (VF b n) (by omega)) | (rw [hI]; congr 1; omega))) | (rw [if_neg (by omega), if_neg (by omega)]; exact (by first | exact hI.trans (congrArg (VF b n) (by omega)) | (rw [hI]; congr 1; omega))), fun z_ => by first | (exfalso; omega) | exact (by first | exact hI.trans (congrArg (VF b n) (by omega)) | (rw [hI]; congr 1; omega)), fun z_ => by first | (exfalso; omega) | exact (by first | exact hI.trans (congrArg (VF b n) (by omega)) | (rw [hI]; congr 1; omega))⟩, by exact BL156, by first | trivial | omega, by exact (InvC_get (by assumption) 79 15 rfl rfl).2, by first | trivial | omega, by first | trivial | omega, by first | trivial | omega, by first | trivial | omega, by first | trivial | omega, by first | trivial | omega⟩⟩)⟩
      · rw [hc7]
        refine go_to (k := 1) (pc' := 44) (L' := [some (.inr (.inr (some 79))), some (.inl 2)]) (st' := [.inr (.inr (some 79))]) (w' := (SH, dt)) (fun _ => rfl) ?_
        refine go_call (Q' := _) rfl rfl rfl rfl rfl (sp_X6_next0_p0 L xs sio (d + 2) dt hI   (by first | trivial | omega) (by first | trivial | omega)) ?_
        rintro _ _ ⟨dt171, rfl, hI172, hF173, h170⟩
        refine ⟨rfl, ?_⟩
        have hF174 : Fr [79, 82] dt dt171 := Fr_tr hF hF173 (by decide)
        rcases h170 with ⟨rfl, h170⟩
        obtain ⟨h170_0, h170_1, h170_2, h170_3, h170_4, h170_5, h170_6, h170_7, h170_8⟩ := h170
        have BL175 : ∀ j : Nat, (j : Int) < 5 * dt 79 10 → dt171 82 j = dt 82 j := fun j hj => (hF173 82 (by decide) j).trans ((fun _ _ => rfl) j hj)
        have hq176 := h170_0
        rw [hbb, show (dt 79 12).toNat = n by omega] at hq176
        have hc177 : CUR 0 b n dt171 (i + 1) := CUR_n hc hq176
        have hi178 : i + 1 ≤ t := by omega
        have hp179 : (gAF (KF 0 b n) (VF b n) (dt 79 10)) i = (gAct (KF 0 b n) (VF b n) 2) (i + 1) := (rfl : (gAF (KF 0 b n) (VF b n) (dt 79 10)) i = (gAF (KF 0 b n) (VF b n) (dt 79 10)) i).trans (by show gAF _ _ _ _ = _; unfold gAF; rw [if_neg (by omega), if_neg (by omega), show (KF 0 b n) i - 1000 = 2 by omega])
        have cr180 := CUR_R hc177 (.inl rfl)
        have cb181 := CUR_b hc177
        have cv182 := CUR_v hc177
        have ck183 := KZ_lt (i := (i + 1)) hz
        have c1184 := (hc177).1
        have ci185 := hi178
        have r186 : 0 ≤ dt171 79 10 ∧ dt171 79 10 ≤ 24 := InvC_get hI172 79 10 rfl rfl
        refine go_to (k := 7) (pc' := 58) (L' := [some (.inr (.inr (some 79))), some (.inl 2)]) (st' := [.inl 2, .inl (5 * (dt171 79 10)), .inr (.inr (some 82))]) (w' := (SH, dt171)) (fun _ => rfl) ?_
        have hI187 : InvC (u2 dt171 82 ((5 * (dt171 79 10)).toNat) 2) := InvC_u2 hI172 (lo := -2147483648) (hi := 2147483647) rfl rfl rfl (by omega) (by omega)
        have hF188 : Fr [79, 82] dt (u2 dt171 82 ((5 * (dt171 79 10)).toNat) 2) := Fr_u2 hF174 (by decide)
        have w189 : (u2 dt171 82 ((5 * (dt171 79 10)).toNat) 2) 79 2 = dt171 79 2 := rfl
        have w190 : (u2 dt171 82 ((5 * (dt171 79 10)).toNat) 2) 79 9 = dt171 79 9 := rfl
        have w191 : (u2 dt171 82 ((5 * (dt171 79 10)).toNat) 2) 79 10 = dt171 79 10 := rfl
        have w192 : (u2 dt171 82 ((5 * (dt171 79 10)).toNat) 2) 79 11 = dt171 79 11 := rfl
        have w193 : (u2 dt171 82 ((5 * (dt171 79 10)).toNat) 2) 79 12 = dt171 79 12 := rfl
        have w194 : (u2 dt171 82 ((5 * (dt171 79 10)).toNat) 2) 79 13 = dt171 79 13 := rfl
        have w195 : (u2 dt171 82 ((5 * (dt171 79 10)).toNat) 2) 79 14 = dt171 79 14 := rfl
        have w196 : (u2 dt171 82 ((5 * (dt171 79 10)).toNat) 2) 79 15 = dt171 79 15 := rfl
        have w197 : (u2 dt171 82 ((5 * (dt171 79 10)).toNat) 2) 79 16 = dt171 79 16 := rfl
        have w198 : (u2 dt171 82 ((5 * (dt171 79 10)).toNat) 2) 79 17 = dt171 79 17 := rfl
        have w199 : (u2 dt171 82 ((5 * (dt171 79 10)).toNat) 2) 79 18 = dt171 79 18 := rfl
        have w200 : (u2 dt171 82 ((5 * (dt171 79 10)).toNat) 2) 79 20 = dt171 79 20 := rfl
        have BL201 : ∀ j : Nat, (j : Int) < 5 * dt 79 10 → (u2 dt171 82 ((5 * (dt171 79 10)).toNat) 2) 82 j = dt 82 j := fun j hj => (u2_ne (by omega)).trans (BL175 j hj)
        have Y202 : (u2 dt171 82 ((5 * (dt171 79 10)).toNat) 2) 82 (5 * (dt 79 10)).toNat = 2 := by rw [show (5 * (dt 79 10)).toNat = (5 * (dt171 79 10)).toNat by omega]; exact u2_eq
        have hc203 : CUR 0 b n (u2 dt171 82 ((5 * (dt171 79 10)).toNat) 2) (i + 1) := CUR_sm hc177 rfl rfl rfl rfl
        refine go_smp (L' := [some (.inr (.inr (some 79))), some (.inl 2)]) (st' := []) (w' := (SH, (u2 dt171 82 ((5 * (dt171 79 10)).toNat) 2))) rfl rfl (s_iast (n := 120) rfl ⟨by omega, by omega⟩ ⟨by omega, by omega⟩) ?_
        refine go_to (k := 6) (pc' := 72) (L' := [some (.inr (.inr (some 79))), some (.inl 2)]) (st' := [.inl 3, .inl 1, .inr (.inr (some 79))]) (w' := (SH, (u2 dt171 82 ((5 * (dt171 79 10)).toNat) 2))) (fun _ => rfl) ?_
        refine go_call (Q' := _) rfl rfl rfl rfl rfl (sp_X6_argument_g0 L xs sio (d + 0) (u2 dt171 82 ((5 * (dt171 79 10)).toNat) 2) hI187 b n t (i + 1) (by first | exact hbb | (rw [show (u2 dt171 82 ((5 * (dt171 79 10)).toNat) 2) 85 = dt 85 from funext (hF188 85 (by decide)), show (u2 dt171 82 ((5 * (dt171 79 10)).toNat) 2) 79 12 = dt 79 12 by omega]; exact hbb)) (by omega) hz ht hc203 hi178 hn5 1 ⟨by omega, by omega⟩ 3 ⟨by omega, by omega⟩ (by first | trivial | omega) (by first | trivial | omega)) ?_
        rintro _ _ ⟨dt205, rfl, hI206, hF207, h204⟩
        refine ⟨rfl, ?_⟩
        have hF208 : Fr [79, 82] dt dt205 := Fr_tr hF188 hF207 (by decide)
        rcases h204 with ⟨rfl, h204⟩ | ⟨rfl, h204⟩
        · skip
          obtain ⟨h204_0, h204_1, h204_2, h204_3, h204_4⟩ := h204
          have fl209 := RSX_0 h204_0 rfl
          have fe210 : (gAF (KF 0 b n) (VF b n) (dt 79 10)) i = (gA (KF 0 b n) (VF b n) 3) (i + 1) := hp179.trans ((show (gAct (KF 0 b n) (VF b n) 2) (i + 1) = gB ((gA (KF 0 b n) (VF b n) 3) (i + 1)) (hA0 (KF 0 b n) (VF b n) 2 ((VF b n) (i + 1))) by exact hAc_n (by decide)).trans (gB_no fl209.1))
          refine go_ret (k := 3) (r := some (.inl 0)) (w1 := (SH, dt205)) (fun _ => rfl) ?_
          exact ⟨dt205, rfl, hI206, hF208, (Or.inl ⟨rfl, ⟨by first | exact RSX_f fe210 fl209 (by omega) (by omega) | exact RSX_no (k := 1) (j := (i + 1)) (hp179.trans (by show gAF _ _ _ _ = _; unfold gAF; rw [if_pos (by omega)])) (by decide) (by omega) (by show _ = ((TP b n (i + 1) : Nat) : Int); omega) | exact RSX_no (k := 3) (j := (i + 1)) (hp179.trans (by show gAF _ _ _ _ = _; unfold gAF; rw [if_neg (by omega), if_pos (by omega)])) (by decide) (by omega) (by show _ = ((TP b n (i + 1) : Nat) : Int); omega) | exact RSX_no (k := 2) (j := (i + 1)) (hp179.trans (by exact (hA0_p rfl).trans (by unfold gOt; rw [if_pos (by omega)]; rfl))) (by decide) (by omega) (by show _ = ((TP b n (i + 1) : Nat) : Int); omega), by first | trivial | omega, by first | trivial | omega, by first | trivial | omega⟩⟩)⟩
        · skip
          obtain ⟨h204_0, h204_1, h204_2, h204_3, h204_4, h204_5, h204_6, h204_7, h204_8, h204_9, h204_10, h204_11⟩ := h204
          have ee211 : (u2 dt171 82 ((5 * (dt171 79 10)).toNat) 2) 79 10 = dt 79 10 := by omega
          rw [ee211] at h204_1 h204_2
          have BL212 : ∀ j : Nat, (j : Int) < 5 * dt 79 10 → dt205 82 j = dt 82 j := fun j hj => (h204_2 j (by omega)).trans (BL201 j hj)
          have Y213 := (h204_2 _ (by omega)).trans Y202
          have Y214 := h204_1
          obtain ⟨j215, ej216, hc217⟩ := RSX_1 h204_0 (by decide)
          have hp218 : (gAF (KF 0 b n) (VF b n) (dt 79 10)) i = (hA0 (KF 0 b n) (VF b n) 2 ((VF b n) (i + 1))) j215 := hp179.trans ((show (gAct (KF 0 b n) (VF b n) 2) (i + 1) = gB ((gA (KF 0 b n) (VF b n) 3) (i + 1)) (hA0 (KF 0 b n) (VF b n) 2 ((VF b n) (i + 1))) by exact hAc_n (by decide)).trans (by rw [ej216]; rfl))
          have hi219 : j215 ≤ t := by have z := gA_M (K := (KF 0 b n)) (V := (VF b n)) (m := 3) (i := (i + 1)) hz; rw [ej216] at z; have y := z rfl; simp only at y; omega
          have cr220 := CUR_R hc217 (.inl rfl)
          have cb221 := CUR_b hc217
          have cv222 := CUR_v hc217
          have ck223 := KZ_lt (i := j215) hz
          have c1224 := (hc217).1
          have ci225 := hi219
          have ej226 : j215 = (i + 1) + 1 := by have z_ := gA_at (K := (KF 0 b n)) (V := (VF b n)) (m := 3) (i := (i + 1)) (by rw [ej216]); rw [ej216] at z_; exact z_
          refine go_to (k := 10) (pc' := 148) (L' := [some (.inr (.inr (some 79))), some (.inl 2)]) (st' := [.inl 2, .inl 2, .inr (.inr (some 79))]) (w' := (SH, dt205)) (fun _ => rfl) ?_
          refine go_call (Q' := _) rfl rfl rfl rfl rfl (sp_X6_argument_g0 L xs sio (d + 0) dt205 hI206 b n t j215 (by first | exact hbb | (rw [show dt205 85 = dt 85 from funext (hF208 85 (by decide)), show dt205 79 12 = dt 79 12 by omega]; exact hbb)) (by omega) hz ht hc217 hi219 hn5 2 ⟨by omega, by omega⟩ 2 ⟨by omega, by omega⟩ (by first | trivial | omega) (by first | trivial | omega)) ?_
          rintro _ _ ⟨dt228, rfl, hI229, hF230, h227⟩
          refine ⟨rfl, ?_⟩
          have hF231 : Fr [79, 82] dt dt228 := Fr_tr hF208 hF230 (by decide)
          rcases h227 with ⟨rfl, h227⟩ | ⟨rfl, h227⟩
          · skip
            obtain ⟨h227_0, h227_1, h227_2, h227_3, h227_4⟩ := h227
            have fl232 := RSX_0 h227_0 rfl
            have fe233 : (gAF (KF 0 b n) (VF b n) (dt 79 10)) i = (gA (KF 0 b n) (VF b n) 2) j215 := hp218.trans ((show (hA0 (KF 0 b n) (VF b n) 2 ((VF b n) (i + 1))) j215 = gB ((gA (KF 0 b n) (VF b n) 2) j215) (hA2 (KF 0 b n) (VF b n) 2) by first | exact hA1_p (by decide) | (rw [hA0_n (by decide)]; exact hA1_p (by decide))).trans (gB_no fl232.1))
            refine go_ret (k := 3) (r := some (.inl 0)) (w1 := (SH, dt228)) (fun _ => rfl) ?_
            exact ⟨dt228, rfl, hI229, hF231, (Or.inl ⟨rfl, ⟨by first | exact RSX_f fe233 fl232 (by omega) (by omega) | exact RSX_no (k := 1) (j := j215) (hp218.trans (by show gAF _ _ _ _ = _; unfold gAF; rw [if_pos (by omega)])) (by decide) (by omega) (by show _ = ((TP b n j215 : Nat) : Int); omega) | exact RSX_no (k := 3) (j := j215) (hp218.trans (by show gAF _ _ _ _ = _; unfold gAF; rw [if_neg (by omega), if_pos (by omega)])) (by decide) (by omega) (by show _ = ((TP b n j215 : Nat) : Int); omega) | exact RSX_no (k := 2) (j := j215) (hp218.trans (by exact (hA0_p rfl).trans (by unfold gOt; rw [if_pos (by omega)]; rfl))) (by decide) (by omega) (by show _ = ((TP b n j215 : Nat) : Int); omega), by first | trivial | omega, by first | trivial | omega, by first | trivial | omega⟩⟩)⟩
          · skip
            obtain ⟨h227_0, h227_1, h227_2, h227_3, h227_4, h227_5, h227_6, h227_7, h227_8, h227_9, h227_10, h227_11⟩ := h227
            have ee234 : dt205 79 10 = dt 79 10 := by omega
            rw [ee234] at h227_1 h227_2
            have BL235 : ∀ j : Nat, (j : Int) < 5 * dt 79 10 → dt228 82 j = dt 82 j := fun j hj => (h227_2 j (by omega)).trans (BL212 j hj)
            have Y236 := (h227_2 _ (by omega)).trans Y213
            have Y237 := (h227_2 _ (by omega)).trans Y214
            have Y238 := h227_1
            obtain ⟨j239, ej240, hc241⟩ := RSX_1 h227_0 (by decide)
            have hp242 : (gAF (KF 0 b n) (VF b n) (dt 79 10)) i = (hA2 (KF 0 b n) (VF b n) 2) j239 := hp218.trans ((show (hA0 (KF 0 b n) (VF b n) 2 ((VF b n) (i + 1))) j215 = gB ((gA (KF 0 b n) (VF b n) 2) j215) (hA2 (KF 0 b n) (VF b n) 2) by first | exact hA1_p (by decide) | (rw [hA0_n (by decide)]; exact hA1_p (by decide))).trans (by rw [ej240]; rfl))
            have hi243 : j239 ≤ t := by have z := gA_M (K := (KF 0 b n)) (V := (VF b n)) (m := 2) (i := j215) hz; rw [ej240] at z; have y := z rfl; simp only at y; omega
            have cr244 := CUR_R hc241 (.inl rfl)
            have cb245 := CUR_b hc241
            have cv246 := CUR_v hc241
            have ck247 := KZ_lt (i := j239) hz
            have c1248 := (hc241).1
            have ci249 := hi243
            have ej250 : j239 = j215 + 1 := by have z_ := gA_at (K := (KF 0 b n)) (V := (VF b n)) (m := 2) (i := j215) (by rw [ej240]); rw [ej240] at z_; exact z_
            refine go_to (k := 7) (pc' := 179) (L' := [some (.inr (.inr (some 79))), some (.inl 2)]) (st' := [.inl 3, .inl 3, .inr (.inr (some 79))]) (w' := (SH, dt228)) (fun _ => rfl) ?_
            refine go_call (Q' := _) rfl rfl rfl rfl rfl (sp_X6_argument_g0 L xs sio (d + 0) dt228 hI229 b n t j239 (by first | exact hbb | (rw [show dt228 85 = dt 85 from funext (hF231 85 (by decide)), show dt228 79 12 = dt 79 12 by omega]; exact hbb)) (by omega) hz ht hc241 hi243 hn5 3 ⟨by omega, by omega⟩ 3 ⟨by omega, by omega⟩ (by first | trivial | omega) (by first | trivial | omega)) ?_
            rintro _ _ ⟨dt252, rfl, hI253, hF254, h251⟩
            refine ⟨rfl, ?_⟩
            have hF255 : Fr [79, 82] dt dt252 := Fr_tr hF231 hF254 (by decide)
            rcases h251 with ⟨rfl, h251⟩ | ⟨rfl, h251⟩
            · skip
              obtain ⟨h251_0, h251_1, h251_2, h251_3, h251_4⟩ := h251
              have fl256 := RSX_0 h251_0 rfl
              have fe257 : (gAF (KF 0 b n) (VF b n) (dt 79 10)) i = (gA (KF 0 b n) (VF b n) 3) j239 := hp242.trans ((show (hA2 (KF 0 b n) (VF b n) 2) j239 = gB ((gA (KF 0 b n) (VF b n) 3) j239) (hA3 (KF 0 b n) (VF b n) 2) by first | exact hA2_p (by decide) | (rw [hA1_n (by decide)]; exact hA2_p (by decide)) | (rw [hA0_n (by decide), hA1_n (by decide)]; exact hA2_p (by decide))).trans (gB_no fl256.1))
              refine go_ret (k := 3) (r := some (.inl 0)) (w1 := (SH, dt252)) (fun _ => rfl) ?_
              exact ⟨dt252, rfl, hI253, hF255, (Or.inl ⟨rfl, ⟨by first | exact RSX_f fe257 fl256 (by omega) (by omega) | exact RSX_no (k := 1) (j := j239) (hp242.trans (by show gAF _ _ _ _ = _; unfold gAF; rw [if_pos (by omega)])) (by decide) (by omega) (by show _ = ((TP b n j239 : Nat) : Int); omega) | exact RSX_no (k := 3) (j := j239) (hp242.trans (by show gAF _ _ _ _ = _; unfold gAF; rw [if_neg (by omega), if_pos (by omega)])) (by decide) (by omega) (by show _ = ((TP b n j239 : Nat) : Int); omega) | exact RSX_no (k := 2) (j := j239) (hp242.trans (by exact (hA0_p rfl).trans (by unfold gOt; rw [if_pos (by omega)]; rfl))) (by decide) (by omega) (by show _ = ((TP b n j239 : Nat) : Int); omega), by first | trivial | omega, by first | trivial | omega, by first | trivial | omega⟩⟩)⟩
            · skip
              obtain ⟨h251_0, h251_1, h251_2, h251_3, h251_4, h251_5, h251_6, h251_7, h251_8, h251_9, h251_10, h251_11⟩ := h251
              have ee258 : dt228 79 10 = dt 79 10 := by omega
              rw [ee258] at h251_1 h251_2
              have BL259 : ∀ j : Nat, (j : Int) < 5 * dt 79 10 → dt252 82 j = dt 82 j := fun j hj => (h251_2 j (by omega)).trans (BL235 j hj)
              have Y260 := (h251_2 _ (by omega)).trans Y236
              have Y261 := (h251_2 _ (by omega)).trans Y237
              have Y262 := (h251_2 _ (by omega)).trans Y238
              have Y263 := h251_1
              obtain ⟨j264, ej265, hc266⟩ := RSX_1 h251_0 (by decide)
              have hp267 : (gAF (KF 0 b n) (VF b n) (dt 79 10)) i = (hA3 (KF 0 b n) (VF b n) 2) j264 := hp242.trans ((show (hA2 (KF 0 b n) (VF b n) 2) j239 = gB ((gA (KF 0 b n) (VF b n) 3) j239) (hA3 (KF 0 b n) (VF b n) 2) by first | exact hA2_p (by decide) | (rw [hA1_n (by decide)]; exact hA2_p (by decide)) | (rw [hA0_n (by decide), hA1_n (by decide)]; exact hA2_p (by decide))).trans (by rw [ej265]; rfl))
              have hi268 : j264 ≤ t := by have z := gA_M (K := (KF 0 b n)) (V := (VF b n)) (m := 3) (i := j239) hz; rw [ej265] at z; have y := z rfl; simp only at y; omega
              have cr269 := CUR_R hc266 (.inl rfl)
              have cb270 := CUR_b hc266
              have cv271 := CUR_v hc266
              have ck272 := KZ_lt (i := j264) hz
              have c1273 := (hc266).1
              have ci274 := hi268
              have ej275 : j264 = j239 + 1 := by have z_ := gA_at (K := (KF 0 b n)) (V := (VF b n)) (m := 3) (i := j239) (by rw [ej265]); rw [ej265] at z_; exact z_
              refine go_to (k := 6) (pc' := 208) (L' := [some (.inr (.inr (some 79))), some (.inl 2)]) (st' := [.inl 159, .inr (.inr (some 79))]) (w' := (SH, dt252)) (fun _ => rfl) ?_
              refine go_call (Q' := _) rfl rfl rfl rfl rfl (sp_X6_need0_g0 L xs sio (d + 1) dt252 hI253 b n t j264 (by first | exact hbb | (rw [show dt252 85 = dt 85 from funext (hF255 85 (by decide)), show dt252 79 12 = dt 79 12 by omega]; exact hbb)) (by omega) hz ht hc266 hi268 hn5 159 ⟨by omega, by omega⟩ (by first | trivial | omega)) ?_
              rintro _ _ ⟨dt277, rfl, hI278, hF279, h276⟩
              refine ⟨rfl, ?_⟩
              have hF280 : Fr [79, 82] dt dt277 := Fr_tr hF255 hF279 (by decide)
              rcases h276 with ⟨rfl, h276⟩ | ⟨rfl, h276⟩
              · skip
                obtain ⟨h276_0, h276_1, h276_2, h276_3, h276_4⟩ := h276
                have BL281 : ∀ j : Nat, (j : Int) < 5 * dt 79 10 → dt277 82 j = dt 82 j := fun j hj => (hF279 82 (by decide) j).trans (BL259 j hj)
                have Y282 := (hF279 82 (by decide) _).trans Y260
                have Y283 := (hF279 82 (by decide) _).trans Y261
                have Y284 := (hF279 82 (by decide) _).trans Y262
                have Y285 := (hF279 82 (by decide) _).trans Y263
                have fl286 := RSX_0 h276_0 rfl
                have fe287 : (gAF (KF 0 b n) (VF b n) (dt 79 10)) i = (gK (KF 0 b n) (159 - 100)) j264 := hp267.trans ((show (hA3 (KF 0 b n) (VF b n) 2) j264 = gB ((gK (KF 0 b n) (159 - 100)) j264) gOk by first | exact gB_id.symm | ((repeat (first | rw [hA0_n (by decide)] | rw [hA1_n (by decide)] | rw [hA2_n (by decide)] | rw [hA3_n (by decide)])); exact gB_id.symm)).trans (gB_no fl286.1))
                refine go_ret (k := 1) (r := some (.inl 0)) (w1 := (SH, dt277)) (fun _ => rfl) ?_
                exact ⟨dt277, rfl, hI278, hF280, (Or.inl ⟨rfl, ⟨by first | exact RSX_f fe287 fl286 (by omega) (by omega) | exact RSX_no (k := 1) (j := j264) (hp267.trans (by show gAF _ _ _ _ = _; unfold gAF; rw [if_pos (by omega)])) (by decide) (by omega) (by show _ = ((TP b n j264 : Nat) : Int); omega) | exact RSX_no (k := 3) (j := j264) (hp267.trans (by show gAF _ _ _ _ = _; unfold gAF; rw [if_neg (by omega), if_pos (by omega)])) (by decide) (by omega) (by show _ = ((TP b n j264 : Nat) : Int); omega) | exact RSX_no (k := 2) (j := j264) (hp267.trans (by exact (hA0_p rfl).trans (by unfold gOt; rw [if_pos (by omega)]; rfl))) (by decide) (by omega) (by show _ = ((TP b n j264 : Nat) : Int); omega), by first | trivial | omega, by first | trivial | omega, by first | trivial | omega⟩⟩)⟩
              · skip
                obtain ⟨h276_0, h276_1, h276_2, h276_3, h276_4, h276_5, h276_6, h276_7, h276_8, h276_9⟩ := h276
                have BL288 : ∀ j : Nat, (j : Int) < 5 * dt 79 10 → dt277 82 j = dt 82 j := fun j hj => (hF279 82 (by decide) j).trans (BL259 j hj)
                have Y289 := (hF279 82 (by decide) _).trans Y260
                have Y290 := (hF279 82 (by decide) _).trans Y261
                have Y291 := (hF279 82 (by decide) _).trans Y262
                have Y292 := (hF279 82 (by decide) _).trans Y263
                obtain ⟨j293, ej294, hc295⟩ := RSX_1 h276_0 (by decide)
                have hp296 : (gAF (KF 0 b n) (VF b n) (dt 79 10)) i = gOk j293 := hp267.trans ((show (hA3 (KF 0 b n) (VF b n) 2) j264 = gB ((gK (KF 0 b n) (159 - 100)) j264) gOk by first | exact gB_id.symm | ((repeat (first | rw [hA0_n (by decide)] | rw [hA1_n (by decide)] | rw [hA2_n (by decide)] | rw [hA3_n (by decide)])); exact gB_id.symm)).trans (by rw [ej294]; rfl))
                have hi297 : j293 ≤ t := by have z := (fun (h : KZ (KF 0 b n) t) => gK_M (K := (KF 0 b n)) (k := 159 - 100) (i := j264) h (by decide)) hz; rw [ej294] at z; have y := z rfl; simp only at y; omega
                have cr298 := CUR_R hc295 (.inl rfl)
                have cb299 := CUR_b hc295
                have cv300 := CUR_v hc295
                have ck301 := KZ_lt (i := j293) hz
                have c1302 := (hc295).1
                have ci303 := hi297
                refine go_ret (k := 1) (r := some (.inl 1)) (w1 := (SH, dt277)) (fun _ => rfl) ?_
                exact ⟨dt277, rfl, hI278, hF280, (Or.inr ⟨rfl, ⟨by exact RSX_ok hp296 hc295, by first | trivial | omega, by unfold ARF ATT ABB; exact ⟨by rw [Y289]; omega, (by first | exact Y290.trans (congrArg (VF b n) (by omega)) | (rw [Y290]; congr 1; omega)), fun z_ => by first | (exfalso; omega) | (rw [if_pos (by omega)]; exact (by first | exact Y291.trans (congrArg (VF b n) (by omega)) | (rw [Y291]; congr 1; omega))) | (rw [if_neg (by omega)]; exact (by first | exact Y291.trans (congrArg (VF b n) (by omega)) | (rw [Y291]; congr 1; omega))), fun z_ => by first | (exfalso; omega) | (rw [if_pos (by omega)]; exact (by first | exact Y292.trans (congrArg (VF b n) (by omega)) | (rw [Y292]; congr 1; omega))) | (rw [if_neg (by omega), if_pos (by omega)]; exact (by first | exact Y292.trans (congrArg (VF b n) (by omega)) | (rw [Y292]; congr 1; omega))) | (rw [if_neg (by omega), if_neg (by omega)]; exact (by first | exact Y292.trans (congrArg (VF b n) (by omega)) | (rw [Y292]; congr 1; omega))), fun z_ => by first | (exfalso; omega) | exact (by first | exact Y292.trans (congrArg (VF b n) (by omega)) | (rw [Y292]; congr 1; omega)), fun z_ => by first | (exfalso; omega) | exact (by first | exact hI.trans (congrArg (VF b n) (by omega)) | (rw [hI]; congr 1; omega))⟩, by exact BL288, by first | trivial | omega, by exact (InvC_get (by assumption) 79 15 rfl rfl).2, by first | trivial | omega, by first | trivial | omega, by first | trivial | omega, by first | trivial | omega, by first | trivial | omega, by first | trivial | omega⟩⟩)⟩
      · rw [hc7]
        refine go_to (k := 1) (pc' := 44) (L' := [some (.inr (.inr (some 79))), some (.inl 3)]) (st' := [.inr (.inr (some 79))]) (w' := (SH, dt)) (fun _ => rfl) ?_
        refine go_call (Q' := _) rfl rfl rfl rfl rfl (sp_X6_next0_p0 L xs sio (d + 2) dt hI   (by first | trivial | omega) (by first | trivial | omega)) ?_
        rintro _ _ ⟨dt305, rfl, hI306, hF307, h304⟩
        refine ⟨rfl, ?_⟩
        have hF308 : Fr [79, 82] dt dt305 := Fr_tr hF hF307 (by decide)
        rcases h304 with ⟨rfl, h304⟩
        obtain ⟨h304_0, h304_1, h304_2, h304_3, h304_4, h304_5, h304_6, h304_7, h304_8⟩ := h304
        have BL309 : ∀ j : Nat, (j : Int) < 5 * dt 79 10 → dt305 82 j = dt 82 j := fun j hj => (hF307 82 (by decide) j).trans ((fun _ _ => rfl) j hj)
        have hq310 := h304_0
        rw [hbb, show (dt 79 12).toNat = n by omega] at hq310
        have hc311 : CUR 0 b n dt305 (i + 1) := CUR_n hc hq310
        have hi312 : i + 1 ≤ t := by omega
        have hp313 : (gAF (KF 0 b n) (VF b n) (dt 79 10)) i = (gAct (KF 0 b n) (VF b n) 3) (i + 1) := (rfl : (gAF (KF 0 b n) (VF b n) (dt 79 10)) i = (gAF (KF 0 b n) (VF b n) (dt 79 10)) i).trans (by show gAF _ _ _ _ = _; unfold gAF; rw [if_neg (by omega), if_neg (by omega), show (KF 0 b n) i - 1000 = 3 by omega])
        have cr314 := CUR_R hc311 (.inl rfl)
        have cb315 := CUR_b hc311
        have cv316 := CUR_v hc311
        have ck317 := KZ_lt (i := (i + 1)) hz
        have c1318 := (hc311).1
        have ci319 := hi312
        have r320 : 0 ≤ dt305 79 10 ∧ dt305 79 10 ≤ 24 := InvC_get hI306 79 10 rfl rfl
        refine go_to (k := 7) (pc' := 58) (L' := [some (.inr (.inr (some 79))), some (.inl 3)]) (st' := [.inl 3, .inl (5 * (dt305 79 10)), .inr (.inr (some 82))]) (w' := (SH, dt305)) (fun _ => rfl) ?_
        have hI321 : InvC (u2 dt305 82 ((5 * (dt305 79 10)).toNat) 3) := InvC_u2 hI306 (lo := -2147483648) (hi := 2147483647) rfl rfl rfl (by omega) (by omega)
        have hF322 : Fr [79, 82] dt (u2 dt305 82 ((5 * (dt305 79 10)).toNat) 3) := Fr_u2 hF308 (by decide)
        have w323 : (u2 dt305 82 ((5 * (dt305 79 10)).toNat) 3) 79 2 = dt305 79 2 := rfl
        have w324 : (u2 dt305 82 ((5 * (dt305 79 10)).toNat) 3) 79 9 = dt305 79 9 := rfl
        have w325 : (u2 dt305 82 ((5 * (dt305 79 10)).toNat) 3) 79 10 = dt305 79 10 := rfl
        have w326 : (u2 dt305 82 ((5 * (dt305 79 10)).toNat) 3) 79 11 = dt305 79 11 := rfl
        have w327 : (u2 dt305 82 ((5 * (dt305 79 10)).toNat) 3) 79 12 = dt305 79 12 := rfl
        have w328 : (u2 dt305 82 ((5 * (dt305 79 10)).toNat) 3) 79 13 = dt305 79 13 := rfl
        have w329 : (u2 dt305 82 ((5 * (dt305 79 10)).toNat) 3) 79 14 = dt305 79 14 := rfl
        have w330 : (u2 dt305 82 ((5 * (dt305 79 10)).toNat) 3) 79 15 = dt305 79 15 := rfl
        have w331 : (u2 dt305 82 ((5 * (dt305 79 10)).toNat) 3) 79 16 = dt305 79 16 := rfl
        have w332 : (u2 dt305 82 ((5 * (dt305 79 10)).toNat) 3) 79 17 = dt305 79 17 := rfl
        have w333 : (u2 dt305 82 ((5 * (dt305 79 10)).toNat) 3) 79 18 = dt305 79 18 := rfl
        have w334 : (u2 dt305 82 ((5 * (dt305 79 10)).toNat) 3) 79 20 = dt305 79 20 := rfl
        have BL335 : ∀ j : Nat, (j : Int) < 5 * dt 79 10 → (u2 dt305 82 ((5 * (dt305 79 10)).toNat) 3) 82 j = dt 82 j := fun j hj => (u2_ne (by omega)).trans (BL309 j hj)
        have Y336 : (u2 dt305 82 ((5 * (dt305 79 10)).toNat) 3) 82 (5 * (dt 79 10)).toNat = 3 := by rw [show (5 * (dt 79 10)).toNat = (5 * (dt305 79 10)).toNat by omega]; exact u2_eq
        have hc337 : CUR 0 b n (u2 dt305 82 ((5 * (dt305 79 10)).toNat) 3) (i + 1) := CUR_sm hc311 rfl rfl rfl rfl
        refine go_smp (L' := [some (.inr (.inr (some 79))), some (.inl 3)]) (st' := []) (w' := (SH, (u2 dt305 82 ((5 * (dt305 79 10)).toNat) 3))) rfl rfl (s_iast (n := 120) rfl ⟨by omega, by omega⟩ ⟨by omega, by omega⟩) ?_
        refine go_to (k := 6) (pc' := 72) (L' := [some (.inr (.inr (some 79))), some (.inl 3)]) (st' := [.inl 3, .inl 1, .inr (.inr (some 79))]) (w' := (SH, (u2 dt305 82 ((5 * (dt305 79 10)).toNat) 3))) (fun _ => rfl) ?_
        refine go_call (Q' := _) rfl rfl rfl rfl rfl (sp_X6_argument_g0 L xs sio (d + 0) (u2 dt305 82 ((5 * (dt305 79 10)).toNat) 3) hI321 b n t (i + 1) (by first | exact hbb | (rw [show (u2 dt305 82 ((5 * (dt305 79 10)).toNat) 3) 85 = dt 85 from funext (hF322 85 (by decide)), show (u2 dt305 82 ((5 * (dt305 79 10)).toNat) 3) 79 12 = dt 79 12 by omega]; exact hbb)) (by omega) hz ht hc337 hi312 hn5 1 ⟨by omega, by omega⟩ 3 ⟨by omega, by omega⟩ (by first | trivial | omega) (by first | trivial | omega)) ?_
        rintro _ _ ⟨dt339, rfl, hI340, hF341, h338⟩
        refine ⟨rfl, ?_⟩
        have hF342 : Fr [79, 82] dt dt339 := Fr_tr hF322 hF341 (by decide)
        rcases h338 with ⟨rfl, h338⟩ | ⟨rfl, h338⟩
        · skip
          obtain ⟨h338_0, h338_1, h338_2, h338_3, h338_4⟩ := h338
          have fl343 := RSX_0 h338_0 rfl
          have fe344 : (gAF (KF 0 b n) (VF b n) (dt 79 10)) i = (gA (KF 0 b n) (VF b n) 3) (i + 1) := hp313.trans ((show (gAct (KF 0 b n) (VF b n) 3) (i + 1) = gB ((gA (KF 0 b n) (VF b n) 3) (i + 1)) (hA0 (KF 0 b n) (VF b n) 3 ((VF b n) (i + 1))) by exact hAc_n (by decide)).trans (gB_no fl343.1))
          refine go_ret (k := 3) (r := some (.inl 0)) (w1 := (SH, dt339)) (fun _ => rfl) ?_
          exact ⟨dt339, rfl, hI340, hF342, (Or.inl ⟨rfl, ⟨by first | exact RSX_f fe344 fl343 (by omega) (by omega) | exact RSX_no (k := 1) (j := (i + 1)) (hp313.trans (by show gAF _ _ _ _ = _; unfold gAF; rw [if_pos (by omega)])) (by decide) (by omega) (by show _ = ((TP b n (i + 1) : Nat) : Int); omega) | exact RSX_no (k := 3) (j := (i + 1)) (hp313.trans (by show gAF _ _ _ _ = _; unfold gAF; rw [if_neg (by omega), if_pos (by omega)])) (by decide) (by omega) (by show _ = ((TP b n (i + 1) : Nat) : Int); omega) | exact RSX_no (k := 2) (j := (i + 1)) (hp313.trans (by exact (hA0_p rfl).trans (by unfold gOt; rw [if_pos (by omega)]; rfl))) (by decide) (by omega) (by show _ = ((TP b n (i + 1) : Nat) : Int); omega), by first | trivial | omega, by first | trivial | omega, by first | trivial | omega⟩⟩)⟩
        · skip
          obtain ⟨h338_0, h338_1, h338_2, h338_3, h338_4, h338_5, h338_6, h338_7, h338_8, h338_9, h338_10, h338_11⟩ := h338
          have ee345 : (u2 dt305 82 ((5 * (dt305 79 10)).toNat) 3) 79 10 = dt 79 10 := by omega
          rw [ee345] at h338_1 h338_2
          have BL346 : ∀ j : Nat, (j : Int) < 5 * dt 79 10 → dt339 82 j = dt 82 j := fun j hj => (h338_2 j (by omega)).trans (BL335 j hj)
          have Y347 := (h338_2 _ (by omega)).trans Y336
          have Y348 := h338_1
          obtain ⟨j349, ej350, hc351⟩ := RSX_1 h338_0 (by decide)
          have hp352 : (gAF (KF 0 b n) (VF b n) (dt 79 10)) i = (hA0 (KF 0 b n) (VF b n) 3 ((VF b n) (i + 1))) j349 := hp313.trans ((show (gAct (KF 0 b n) (VF b n) 3) (i + 1) = gB ((gA (KF 0 b n) (VF b n) 3) (i + 1)) (hA0 (KF 0 b n) (VF b n) 3 ((VF b n) (i + 1))) by exact hAc_n (by decide)).trans (by rw [ej350]; rfl))
          have hi353 : j349 ≤ t := by have z := gA_M (K := (KF 0 b n)) (V := (VF b n)) (m := 3) (i := (i + 1)) hz; rw [ej350] at z; have y := z rfl; simp only at y; omega
          have cr354 := CUR_R hc351 (.inl rfl)
          have cb355 := CUR_b hc351
          have cv356 := CUR_v hc351
          have ck357 := KZ_lt (i := j349) hz
          have c1358 := (hc351).1
          have ci359 := hi353
          have ej360 : j349 = (i + 1) + 1 := by have z_ := gA_at (K := (KF 0 b n)) (V := (VF b n)) (m := 3) (i := (i + 1)) (by rw [ej350]); rw [ej350] at z_; exact z_
          refine go_to (k := 13) (pc' := 148) (L' := [some (.inr (.inr (some 79))), some (.inl 3)]) (st' := [.inl 2, .inl 2, .inr (.inr (some 79))]) (w' := (SH, dt339)) (fun _ => rfl) ?_
          refine go_call (Q' := _) rfl rfl rfl rfl rfl (sp_X6_argument_g0 L xs sio (d + 0) dt339 hI340 b n t j349 (by first | exact hbb | (rw [show dt339 85 = dt 85 from funext (hF342 85 (by decide)), show dt339 79 12 = dt 79 12 by omega]; exact hbb)) (by omega) hz ht hc351 hi353 hn5 2 ⟨by omega, by omega⟩ 2 ⟨by omega, by omega⟩ (by first | trivial | omega) (by first | trivial | omega)) ?_
          rintro _ _ ⟨dt362, rfl, hI363, hF364, h361⟩
          refine ⟨rfl, ?_⟩
          have hF365 : Fr [79, 82] dt dt362 := Fr_tr hF342 hF364 (by decide)
          rcases h361 with ⟨rfl, h361⟩ | ⟨rfl, h361⟩
          · skip
            obtain ⟨h361_0, h361_1, h361_2, h361_3, h361_4⟩ := h361
            have fl366 := RSX_0 h361_0 rfl
            have fe367 : (gAF (KF 0 b n) (VF b n) (dt 79 10)) i = (gA (KF 0 b n) (VF b n) 2) j349 := hp352.trans ((show (hA0 (KF 0 b n) (VF b n) 3 ((VF b n) (i + 1))) j349 = gB ((gA (KF 0 b n) (VF b n) 2) j349) (hA2 (KF 0 b n) (VF b n) 3) by first | exact hA1_p (by decide) | (rw [hA0_n (by decide)]; exact hA1_p (by decide))).trans (gB_no fl366.1))
            refine go_ret (k := 3) (r := some (.inl 0)) (w1 := (SH, dt362)) (fun _ => rfl) ?_
            exact ⟨dt362, rfl, hI363, hF365, (Or.inl ⟨rfl, ⟨by first | exact RSX_f fe367 fl366 (by omega) (by omega) | exact RSX_no (k := 1) (j := j349) (hp352.trans (by show gAF _ _ _ _ = _; unfold gAF; rw [if_pos (by omega)])) (by decide) (by omega) (by show _ = ((TP b n j349 : Nat) : Int); omega) | exact RSX_no (k := 3) (j := j349) (hp352.trans (by show gAF _ _ _ _ = _; unfold gAF; rw [if_neg (by omega), if_pos (by omega)])) (by decide) (by omega) (by show _ = ((TP b n j349 : Nat) : Int); omega) | exact RSX_no (k := 2) (j := j349) (hp352.trans (by exact (hA0_p rfl).trans (by unfold gOt; rw [if_pos (by omega)]; rfl))) (by decide) (by omega) (by show _ = ((TP b n j349 : Nat) : Int); omega), by first | trivial | omega, by first | trivial | omega, by first | trivial | omega⟩⟩)⟩
          · skip
            obtain ⟨h361_0, h361_1, h361_2, h361_3, h361_4, h361_5, h361_6, h361_7, h361_8, h361_9, h361_10, h361_11⟩ := h361
            have ee368 : dt339 79 10 = dt 79 10 := by omega
            rw [ee368] at h361_1 h361_2
            have BL369 : ∀ j : Nat, (j : Int) < 5 * dt 79 10 → dt362 82 j = dt 82 j := fun j hj => (h361_2 j (by omega)).trans (BL346 j hj)
            have Y370 := (h361_2 _ (by omega)).trans Y347
            have Y371 := (h361_2 _ (by omega)).trans Y348
            have Y372 := h361_1
            obtain ⟨j373, ej374, hc375⟩ := RSX_1 h361_0 (by decide)
            have hp376 : (gAF (KF 0 b n) (VF b n) (dt 79 10)) i = (hA2 (KF 0 b n) (VF b n) 3) j373 := hp352.trans ((show (hA0 (KF 0 b n) (VF b n) 3 ((VF b n) (i + 1))) j349 = gB ((gA (KF 0 b n) (VF b n) 2) j349) (hA2 (KF 0 b n) (VF b n) 3) by first | exact hA1_p (by decide) | (rw [hA0_n (by decide)]; exact hA1_p (by decide))).trans (by rw [ej374]; rfl))
            have hi377 : j373 ≤ t := by have z := gA_M (K := (KF 0 b n)) (V := (VF b n)) (m := 2) (i := j349) hz; rw [ej374] at z; have y := z rfl; simp only at y; omega
            have cr378 := CUR_R hc375 (.inl rfl)
            have cb379 := CUR_b hc375
            have cv380 := CUR_v hc375
            have ck381 := KZ_lt (i := j373) hz
            have c1382 := (hc375).1
            have ci383 := hi377
            have ej384 : j373 = j349 + 1 := by have z_ := gA_at (K := (KF 0 b n)) (V := (VF b n)) (m := 2) (i := j349) (by rw [ej374]); rw [ej374] at z_; exact z_
            refine go_to (k := 10) (pc' := 179) (L' := [some (.inr (.inr (some 79))), some (.inl 3)]) (st' := [.inl 3, .inl 3, .inr (.inr (some 79))]) (w' := (SH, dt362)) (fun _ => rfl) ?_
            refine go_call (Q' := _) rfl rfl rfl rfl rfl (sp_X6_argument_g0 L xs sio (d + 0) dt362 hI363 b n t j373 (by first | exact hbb | (rw [show dt362 85 = dt 85 from funext (hF365 85 (by decide)), show dt362 79 12 = dt 79 12 by omega]; exact hbb)) (by omega) hz ht hc375 hi377 hn5 3 ⟨by omega, by omega⟩ 3 ⟨by omega, by omega⟩ (by first | trivial | omega) (by first | trivial | omega)) ?_
            rintro _ _ ⟨dt386, rfl, hI387, hF388, h385⟩
            refine ⟨rfl, ?_⟩
            have hF389 : Fr [79, 82] dt dt386 := Fr_tr hF365 hF388 (by decide)
            rcases h385 with ⟨rfl, h385⟩ | ⟨rfl, h385⟩
            · skip
              obtain ⟨h385_0, h385_1, h385_2, h385_3, h385_4⟩ := h385
              have fl390 := RSX_0 h385_0 rfl
              have fe391 : (gAF (KF 0 b n) (VF b n) (dt 79 10)) i = (gA (KF 0 b n) (VF b n) 3) j373 := hp376.trans ((show (hA2 (KF 0 b n) (VF b n) 3) j373 = gB ((gA (KF 0 b n) (VF b n) 3) j373) (hA3 (KF 0 b n) (VF b n) 3) by first | exact hA2_p (by decide) | (rw [hA1_n (by decide)]; exact hA2_p (by decide)) | (rw [hA0_n (by decide), hA1_n (by decide)]; exact hA2_p (by decide))).trans (gB_no fl390.1))
              refine go_ret (k := 3) (r := some (.inl 0)) (w1 := (SH, dt386)) (fun _ => rfl) ?_
              exact ⟨dt386, rfl, hI387, hF389, (Or.inl ⟨rfl, ⟨by first | exact RSX_f fe391 fl390 (by omega) (by omega) | exact RSX_no (k := 1) (j := j373) (hp376.trans (by show gAF _ _ _ _ = _; unfold gAF; rw [if_pos (by omega)])) (by decide) (by omega) (by show _ = ((TP b n j373 : Nat) : Int); omega) | exact RSX_no (k := 3) (j := j373) (hp376.trans (by show gAF _ _ _ _ = _; unfold gAF; rw [if_neg (by omega), if_pos (by omega)])) (by decide) (by omega) (by show _ = ((TP b n j373 : Nat) : Int); omega) | exact RSX_no (k := 2) (j := j373) (hp376.trans (by exact (hA0_p rfl).trans (by unfold gOt; rw [if_pos (by omega)]; rfl))) (by decide) (by omega) (by show _ = ((TP b n j373 : Nat) : Int); omega), by first | trivial | omega, by first | trivial | omega, by first | trivial | omega⟩⟩)⟩
            · skip
              obtain ⟨h385_0, h385_1, h385_2, h385_3, h385_4, h385_5, h385_6, h385_7, h385_8, h385_9, h385_10, h385_11⟩ := h385
              have ee392 : dt362 79 10 = dt 79 10 := by omega
              rw [ee392] at h385_1 h385_2
              have BL393 : ∀ j : Nat, (j : Int) < 5 * dt 79 10 → dt386 82 j = dt 82 j := fun j hj => (h385_2 j (by omega)).trans (BL369 j hj)
              have Y394 := (h385_2 _ (by omega)).trans Y370
              have Y395 := (h385_2 _ (by omega)).trans Y371
              have Y396 := (h385_2 _ (by omega)).trans Y372
              have Y397 := h385_1
              obtain ⟨j398, ej399, hc400⟩ := RSX_1 h385_0 (by decide)
              have hp401 : (gAF (KF 0 b n) (VF b n) (dt 79 10)) i = (hA3 (KF 0 b n) (VF b n) 3) j398 := hp376.trans ((show (hA2 (KF 0 b n) (VF b n) 3) j373 = gB ((gA (KF 0 b n) (VF b n) 3) j373) (hA3 (KF 0 b n) (VF b n) 3) by first | exact hA2_p (by decide) | (rw [hA1_n (by decide)]; exact hA2_p (by decide)) | (rw [hA0_n (by decide), hA1_n (by decide)]; exact hA2_p (by decide))).trans (by rw [ej399]; rfl))
              have hi402 : j398 ≤ t := by have z := gA_M (K := (KF 0 b n)) (V := (VF b n)) (m := 3) (i := j373) hz; rw [ej399] at z; have y := z rfl; simp only at y; omega
              have cr403 := CUR_R hc400 (.inl rfl)
              have cb404 := CUR_b hc400
              have cv405 := CUR_v hc400
              have ck406 := KZ_lt (i := j398) hz
              have c1407 := (hc400).1
              have ci408 := hi402
              have ej409 : j398 = j373 + 1 := by have z_ := gA_at (K := (KF 0 b n)) (V := (VF b n)) (m := 3) (i := j373) (by rw [ej399]); rw [ej399] at z_; exact z_
              refine go_to (k := 6) (pc' := 208) (L' := [some (.inr (.inr (some 79))), some (.inl 3)]) (st' := [.inl 159, .inr (.inr (some 79))]) (w' := (SH, dt386)) (fun _ => rfl) ?_
              refine go_call (Q' := _) rfl rfl rfl rfl rfl (sp_X6_need0_g0 L xs sio (d + 1) dt386 hI387 b n t j398 (by first | exact hbb | (rw [show dt386 85 = dt 85 from funext (hF389 85 (by decide)), show dt386 79 12 = dt 79 12 by omega]; exact hbb)) (by omega) hz ht hc400 hi402 hn5 159 ⟨by omega, by omega⟩ (by first | trivial | omega)) ?_
              rintro _ _ ⟨dt411, rfl, hI412, hF413, h410⟩
              refine ⟨rfl, ?_⟩
              have hF414 : Fr [79, 82] dt dt411 := Fr_tr hF389 hF413 (by decide)
              rcases h410 with ⟨rfl, h410⟩ | ⟨rfl, h410⟩
              · skip
                obtain ⟨h410_0, h410_1, h410_2, h410_3, h410_4⟩ := h410
                have BL415 : ∀ j : Nat, (j : Int) < 5 * dt 79 10 → dt411 82 j = dt 82 j := fun j hj => (hF413 82 (by decide) j).trans (BL393 j hj)
                have Y416 := (hF413 82 (by decide) _).trans Y394
                have Y417 := (hF413 82 (by decide) _).trans Y395
                have Y418 := (hF413 82 (by decide) _).trans Y396
                have Y419 := (hF413 82 (by decide) _).trans Y397
                have fl420 := RSX_0 h410_0 rfl
                have fe421 : (gAF (KF 0 b n) (VF b n) (dt 79 10)) i = (gK (KF 0 b n) (159 - 100)) j398 := hp401.trans ((show (hA3 (KF 0 b n) (VF b n) 3) j398 = gB ((gK (KF 0 b n) (159 - 100)) j398) gOk by first | exact gB_id.symm | ((repeat (first | rw [hA0_n (by decide)] | rw [hA1_n (by decide)] | rw [hA2_n (by decide)] | rw [hA3_n (by decide)])); exact gB_id.symm)).trans (gB_no fl420.1))
                refine go_ret (k := 1) (r := some (.inl 0)) (w1 := (SH, dt411)) (fun _ => rfl) ?_
                exact ⟨dt411, rfl, hI412, hF414, (Or.inl ⟨rfl, ⟨by first | exact RSX_f fe421 fl420 (by omega) (by omega) | exact RSX_no (k := 1) (j := j398) (hp401.trans (by show gAF _ _ _ _ = _; unfold gAF; rw [if_pos (by omega)])) (by decide) (by omega) (by show _ = ((TP b n j398 : Nat) : Int); omega) | exact RSX_no (k := 3) (j := j398) (hp401.trans (by show gAF _ _ _ _ = _; unfold gAF; rw [if_neg (by omega), if_pos (by omega)])) (by decide) (by omega) (by show _ = ((TP b n j398 : Nat) : Int); omega) | exact RSX_no (k := 2) (j := j398) (hp401.trans (by exact (hA0_p rfl).trans (by unfold gOt; rw [if_pos (by omega)]; rfl))) (by decide) (by omega) (by show _ = ((TP b n j398 : Nat) : Int); omega), by first | trivial | omega, by first | trivial | omega, by first | trivial | omega⟩⟩)⟩
              · skip
                obtain ⟨h410_0, h410_1, h410_2, h410_3, h410_4, h410_5, h410_6, h410_7, h410_8, h410_9⟩ := h410
                have BL422 : ∀ j : Nat, (j : Int) < 5 * dt 79 10 → dt411 82 j = dt 82 j := fun j hj => (hF413 82 (by decide) j).trans (BL393 j hj)
                have Y423 := (hF413 82 (by decide) _).trans Y394
                have Y424 := (hF413 82 (by decide) _).trans Y395
                have Y425 := (hF413 82 (by decide) _).trans Y396
                have Y426 := (hF413 82 (by decide) _).trans Y397
                obtain ⟨j427, ej428, hc429⟩ := RSX_1 h410_0 (by decide)
                have hp430 : (gAF (KF 0 b n) (VF b n) (dt 79 10)) i = gOk j427 := hp401.trans ((show (hA3 (KF 0 b n) (VF b n) 3) j398 = gB ((gK (KF 0 b n) (159 - 100)) j398) gOk by first | exact gB_id.symm | ((repeat (first | rw [hA0_n (by decide)] | rw [hA1_n (by decide)] | rw [hA2_n (by decide)] | rw [hA3_n (by decide)])); exact gB_id.symm)).trans (by rw [ej428]; rfl))
                have hi431 : j427 ≤ t := by have z := (fun (h : KZ (KF 0 b n) t) => gK_M (K := (KF 0 b n)) (k := 159 - 100) (i := j398) h (by decide)) hz; rw [ej428] at z; have y := z rfl; simp only at y; omega
                have cr432 := CUR_R hc429 (.inl rfl)
                have cb433 := CUR_b hc429
                have cv434 := CUR_v hc429
                have ck435 := KZ_lt (i := j427) hz
                have c1436 := (hc429).1
                have ci437 := hi431
                refine go_ret (k := 1) (r := some (.inl 1)) (w1 := (SH, dt411)) (fun _ => rfl) ?_
                exact ⟨dt411, rfl, hI412, hF414, (Or.inr ⟨rfl, ⟨by exact RSX_ok hp430 hc429, by first | trivial | omega, by unfold ARF ATT ABB; exact ⟨by rw [Y423]; omega, (by first | exact Y424.trans (congrArg (VF b n) (by omega)) | (rw [Y424]; congr 1; omega)), fun z_ => by first | (exfalso; omega) | (rw [if_pos (by omega)]; exact (by first | exact Y425.trans (congrArg (VF b n) (by omega)) | (rw [Y425]; congr 1; omega))) | (rw [if_neg (by omega)]; exact (by first | exact Y425.trans (congrArg (VF b n) (by omega)) | (rw [Y425]; congr 1; omega))), fun z_ => by first | (exfalso; omega) | (rw [if_pos (by omega)]; exact (by first | exact Y426.trans (congrArg (VF b n) (by omega)) | (rw [Y426]; congr 1; omega))) | (rw [if_neg (by omega), if_pos (by omega)]; exact (by first | exact Y426.trans (congrArg (VF b n) (by omega)) | (rw [Y426]; congr 1; omega))) | (rw [if_neg (by omega), if_neg (by omega)]; exact (by first | exact Y426.trans (congrArg (VF b n) (by omega)) | (rw [Y426]; congr 1; omega))), fun z_ => by first | (exfalso; omega) | exact (by first | exact Y426.trans (congrArg (VF b n) (by omega)) | (rw [Y426]; congr 1; omega)), fun z_ => by first | (exfalso; omega) | exact (by first | exact hI.trans (congrArg (VF b n) (by omega)) | (rw [hI]; congr 1; omega))⟩, by exact BL422, by first | trivial | omega, by exact (InvC_get (by assumption) 79 15 rfl rfl).2, by first | trivial | omega, by first | trivial | omega, by first | trivial | omega, by first | trivial | omega, by first | trivial | omega, by first | trivial | omega⟩⟩)⟩
      · rw [hc7]
        refine go_to (k := 1) (pc' := 44) (L' := [some (.inr (.inr (some 79))), some (.inl 4)]) (st' := [.inr (.inr (some 79))]) (w' := (SH, dt)) (fun _ => rfl) ?_
        refine go_call (Q' := _) rfl rfl rfl rfl rfl (sp_X6_next0_p0 L xs sio (d + 2) dt hI   (by first | trivial | omega) (by first | trivial | omega)) ?_
        rintro _ _ ⟨dt439, rfl, hI440, hF441, h438⟩
        refine ⟨rfl, ?_⟩
        have hF442 : Fr [79, 82] dt dt439 := Fr_tr hF hF441 (by decide)
        rcases h438 with ⟨rfl, h438⟩
        obtain ⟨h438_0, h438_1, h438_2, h438_3, h438_4, h438_5, h438_6, h438_7, h438_8⟩ := h438
        have BL443 : ∀ j : Nat, (j : Int) < 5 * dt 79 10 → dt439 82 j = dt 82 j := fun j hj => (hF441 82 (by decide) j).trans ((fun _ _ => rfl) j hj)
        have hq444 := h438_0
        rw [hbb, show (dt 79 12).toNat = n by omega] at hq444
        have hc445 : CUR 0 b n dt439 (i + 1) := CUR_n hc hq444
        have hi446 : i + 1 ≤ t := by omega
        have hp447 : (gAF (KF 0 b n) (VF b n) (dt 79 10)) i = (gAct (KF 0 b n) (VF b n) 4) (i + 1) := (rfl : (gAF (KF 0 b n) (VF b n) (dt 79 10)) i = (gAF (KF 0 b n) (VF b n) (dt 79 10)) i).trans (by show gAF _ _ _ _ = _; unfold gAF; rw [if_neg (by omega), if_neg (by omega), show (KF 0 b n) i - 1000 = 4 by omega])
        have cr448 := CUR_R hc445 (.inl rfl)
        have cb449 := CUR_b hc445
        have cv450 := CUR_v hc445
        have ck451 := KZ_lt (i := (i + 1)) hz
        have c1452 := (hc445).1
        have ci453 := hi446
        have r454 : 0 ≤ dt439 79 10 ∧ dt439 79 10 ≤ 24 := InvC_get hI440 79 10 rfl rfl
        refine go_to (k := 7) (pc' := 58) (L' := [some (.inr (.inr (some 79))), some (.inl 4)]) (st' := [.inl 4, .inl (5 * (dt439 79 10)), .inr (.inr (some 82))]) (w' := (SH, dt439)) (fun _ => rfl) ?_
        have hI455 : InvC (u2 dt439 82 ((5 * (dt439 79 10)).toNat) 4) := InvC_u2 hI440 (lo := -2147483648) (hi := 2147483647) rfl rfl rfl (by omega) (by omega)
        have hF456 : Fr [79, 82] dt (u2 dt439 82 ((5 * (dt439 79 10)).toNat) 4) := Fr_u2 hF442 (by decide)
        have w457 : (u2 dt439 82 ((5 * (dt439 79 10)).toNat) 4) 79 2 = dt439 79 2 := rfl
        have w458 : (u2 dt439 82 ((5 * (dt439 79 10)).toNat) 4) 79 9 = dt439 79 9 := rfl
        have w459 : (u2 dt439 82 ((5 * (dt439 79 10)).toNat) 4) 79 10 = dt439 79 10 := rfl
        have w460 : (u2 dt439 82 ((5 * (dt439 79 10)).toNat) 4) 79 11 = dt439 79 11 := rfl
        have w461 : (u2 dt439 82 ((5 * (dt439 79 10)).toNat) 4) 79 12 = dt439 79 12 := rfl
        have w462 : (u2 dt439 82 ((5 * (dt439 79 10)).toNat) 4) 79 13 = dt439 79 13 := rfl
        have w463 : (u2 dt439 82 ((5 * (dt439 79 10)).toNat) 4) 79 14 = dt439 79 14 := rfl
        have w464 : (u2 dt439 82 ((5 * (dt439 79 10)).toNat) 4) 79 15 = dt439 79 15 := rfl
        have w465 : (u2 dt439 82 ((5 * (dt439 79 10)).toNat) 4) 79 16 = dt439 79 16 := rfl
        have w466 : (u2 dt439 82 ((5 * (dt439 79 10)).toNat) 4) 79 17 = dt439 79 17 := rfl
        have w467 : (u2 dt439 82 ((5 * (dt439 79 10)).toNat) 4) 79 18 = dt439 79 18 := rfl
        have w468 : (u2 dt439 82 ((5 * (dt439 79 10)).toNat) 4) 79 20 = dt439 79 20 := rfl
        have BL469 : ∀ j : Nat, (j : Int) < 5 * dt 79 10 → (u2 dt439 82 ((5 * (dt439 79 10)).toNat) 4) 82 j = dt 82 j := fun j hj => (u2_ne (by omega)).trans (BL443 j hj)
        have Y470 : (u2 dt439 82 ((5 * (dt439 79 10)).toNat) 4) 82 (5 * (dt 79 10)).toNat = 4 := by rw [show (5 * (dt 79 10)).toNat = (5 * (dt439 79 10)).toNat by omega]; exact u2_eq
        have hc471 : CUR 0 b n (u2 dt439 82 ((5 * (dt439 79 10)).toNat) 4) (i + 1) := CUR_sm hc445 rfl rfl rfl rfl
        refine go_smp (L' := [some (.inr (.inr (some 79))), some (.inl 4)]) (st' := []) (w' := (SH, (u2 dt439 82 ((5 * (dt439 79 10)).toNat) 4))) rfl rfl (s_iast (n := 120) rfl ⟨by omega, by omega⟩ ⟨by omega, by omega⟩) ?_
        refine go_to (k := 6) (pc' := 72) (L' := [some (.inr (.inr (some 79))), some (.inl 4)]) (st' := [.inl 3, .inl 1, .inr (.inr (some 79))]) (w' := (SH, (u2 dt439 82 ((5 * (dt439 79 10)).toNat) 4))) (fun _ => rfl) ?_
        refine go_call (Q' := _) rfl rfl rfl rfl rfl (sp_X6_argument_g0 L xs sio (d + 0) (u2 dt439 82 ((5 * (dt439 79 10)).toNat) 4) hI455 b n t (i + 1) (by first | exact hbb | (rw [show (u2 dt439 82 ((5 * (dt439 79 10)).toNat) 4) 85 = dt 85 from funext (hF456 85 (by decide)), show (u2 dt439 82 ((5 * (dt439 79 10)).toNat) 4) 79 12 = dt 79 12 by omega]; exact hbb)) (by omega) hz ht hc471 hi446 hn5 1 ⟨by omega, by omega⟩ 3 ⟨by omega, by omega⟩ (by first | trivial | omega) (by first | trivial | omega)) ?_
        rintro _ _ ⟨dt473, rfl, hI474, hF475, h472⟩
        refine ⟨rfl, ?_⟩
        have hF476 : Fr [79, 82] dt dt473 := Fr_tr hF456 hF475 (by decide)
        rcases h472 with ⟨rfl, h472⟩ | ⟨rfl, h472⟩
        · skip
          obtain ⟨h472_0, h472_1, h472_2, h472_3, h472_4⟩ := h472
          have fl477 := RSX_0 h472_0 rfl
          have fe478 : (gAF (KF 0 b n) (VF b n) (dt 79 10)) i = (gA (KF 0 b n) (VF b n) 3) (i + 1) := hp447.trans ((show (gAct (KF 0 b n) (VF b n) 4) (i + 1) = gB ((gA (KF 0 b n) (VF b n) 3) (i + 1)) (hA0 (KF 0 b n) (VF b n) 4 ((VF b n) (i + 1))) by exact hAc_n (by decide)).trans (gB_no fl477.1))
          refine go_ret (k := 3) (r := some (.inl 0)) (w1 := (SH, dt473)) (fun _ => rfl) ?_
          exact ⟨dt473, rfl, hI474, hF476, (Or.inl ⟨rfl, ⟨by first | exact RSX_f fe478 fl477 (by omega) (by omega) | exact RSX_no (k := 1) (j := (i + 1)) (hp447.trans (by show gAF _ _ _ _ = _; unfold gAF; rw [if_pos (by omega)])) (by decide) (by omega) (by show _ = ((TP b n (i + 1) : Nat) : Int); omega) | exact RSX_no (k := 3) (j := (i + 1)) (hp447.trans (by show gAF _ _ _ _ = _; unfold gAF; rw [if_neg (by omega), if_pos (by omega)])) (by decide) (by omega) (by show _ = ((TP b n (i + 1) : Nat) : Int); omega) | exact RSX_no (k := 2) (j := (i + 1)) (hp447.trans (by exact (hA0_p rfl).trans (by unfold gOt; rw [if_pos (by omega)]; rfl))) (by decide) (by omega) (by show _ = ((TP b n (i + 1) : Nat) : Int); omega), by first | trivial | omega, by first | trivial | omega, by first | trivial | omega⟩⟩)⟩
        · skip
          obtain ⟨h472_0, h472_1, h472_2, h472_3, h472_4, h472_5, h472_6, h472_7, h472_8, h472_9, h472_10, h472_11⟩ := h472
          have ee479 : (u2 dt439 82 ((5 * (dt439 79 10)).toNat) 4) 79 10 = dt 79 10 := by omega
          rw [ee479] at h472_1 h472_2
          have BL480 : ∀ j : Nat, (j : Int) < 5 * dt 79 10 → dt473 82 j = dt 82 j := fun j hj => (h472_2 j (by omega)).trans (BL469 j hj)
          have Y481 := (h472_2 _ (by omega)).trans Y470
          have Y482 := h472_1
          obtain ⟨j483, ej484, hc485⟩ := RSX_1 h472_0 (by decide)
          have hp486 : (gAF (KF 0 b n) (VF b n) (dt 79 10)) i = (hA0 (KF 0 b n) (VF b n) 4 ((VF b n) (i + 1))) j483 := hp447.trans ((show (gAct (KF 0 b n) (VF b n) 4) (i + 1) = gB ((gA (KF 0 b n) (VF b n) 3) (i + 1)) (hA0 (KF 0 b n) (VF b n) 4 ((VF b n) (i + 1))) by exact hAc_n (by decide)).trans (by rw [ej484]; rfl))
          have hi487 : j483 ≤ t := by have z := gA_M (K := (KF 0 b n)) (V := (VF b n)) (m := 3) (i := (i + 1)) hz; rw [ej484] at z; have y := z rfl; simp only at y; omega
          have cr488 := CUR_R hc485 (.inl rfl)
          have cb489 := CUR_b hc485
          have cv490 := CUR_v hc485
          have ck491 := KZ_lt (i := j483) hz
          have c1492 := (hc485).1
          have ci493 := hi487
          have ej494 : j483 = (i + 1) + 1 := by have z_ := gA_at (K := (KF 0 b n)) (V := (VF b n)) (m := 3) (i := (i + 1)) (by rw [ej484]); rw [ej484] at z_; exact z_
          have r495 : (-2147483648) ≤ dt473 79 14 ∧ dt473 79 14 ≤ 2147483647 := InvC_get hI474 79 14 rfl rfl
          refine go_if (k := 8) (p1 := 119) (p2 := 93) (L' := [some (.inr (.inr (some 79))), some (.inl 4)]) (st' := []) (w' := (SH, dt473)) (fun _ => rfl) (c_ne (a := dt473 79 14) (b := 2) ⟨by omega, by omega⟩ ⟨by omega, by omega⟩) (fun c496 => ?_) (fun c496 => ?_)
          · skip
            refine go_to (k := 3) (pc' := 122) (L' := [some (.inr (.inr (some 79))), some (.inl 4)]) (st' := [.inl 3, .inl 4, .inr (.inr (some 79))]) (w' := (SH, dt473)) (fun _ => rfl) ?_
            refine go_call (Q' := _) rfl rfl rfl rfl rfl (sp_X6_argument_g0 L xs sio (d + 0) dt473 hI474 b n t j483 (by first | exact hbb | (rw [show dt473 85 = dt 85 from funext (hF476 85 (by decide)), show dt473 79 12 = dt 79 12 by omega]; exact hbb)) (by omega) hz ht hc485 hi487 hn5 4 ⟨by omega, by omega⟩ 3 ⟨by omega, by omega⟩ (by first | trivial | omega) (by first | trivial | omega)) ?_
            rintro _ _ ⟨dt498, rfl, hI499, hF500, h497⟩
            refine ⟨rfl, ?_⟩
            have hF501 : Fr [79, 82] dt dt498 := Fr_tr hF476 hF500 (by decide)
            rcases h497 with ⟨rfl, h497⟩ | ⟨rfl, h497⟩
            · skip
              obtain ⟨h497_0, h497_1, h497_2, h497_3, h497_4⟩ := h497
              have fl502 := RSX_0 h497_0 rfl
              have fe503 : (gAF (KF 0 b n) (VF b n) (dt 79 10)) i = (gA (KF 0 b n) (VF b n) 3) j483 := hp486.trans ((show (hA0 (KF 0 b n) (VF b n) 4 ((VF b n) (i + 1))) j483 = gB ((gA (KF 0 b n) (VF b n) 3) j483) (hA1 (KF 0 b n) (VF b n) 4) by exact (hA0_p rfl).trans (by unfold gOt; rw [if_neg (by omega)])).trans (gB_no fl502.1))
              refine go_ret (k := 3) (r := some (.inl 0)) (w1 := (SH, dt498)) (fun _ => rfl) ?_
              exact ⟨dt498, rfl, hI499, hF501, (Or.inl ⟨rfl, ⟨by first | exact RSX_f fe503 fl502 (by omega) (by omega) | exact RSX_no (k := 1) (j := j483) (hp486.trans (by show gAF _ _ _ _ = _; unfold gAF; rw [if_pos (by omega)])) (by decide) (by omega) (by show _ = ((TP b n j483 : Nat) : Int); omega) | exact RSX_no (k := 3) (j := j483) (hp486.trans (by show gAF _ _ _ _ = _; unfold gAF; rw [if_neg (by omega), if_pos (by omega)])) (by decide) (by omega) (by show _ = ((TP b n j483 : Nat) : Int); omega) | exact RSX_no (k := 2) (j := j483) (hp486.trans (by exact (hA0_p rfl).trans (by unfold gOt; rw [if_pos (by omega)]; rfl))) (by decide) (by omega) (by show _ = ((TP b n j483 : Nat) : Int); omega), by first | trivial | omega, by first | trivial | omega, by first | trivial | omega⟩⟩)⟩
            · skip
              obtain ⟨h497_0, h497_1, h497_2, h497_3, h497_4, h497_5, h497_6, h497_7, h497_8, h497_9, h497_10, h497_11⟩ := h497
              have ee504 : dt473 79 10 = dt 79 10 := by omega
              rw [ee504] at h497_1 h497_2
              have BL505 : ∀ j : Nat, (j : Int) < 5 * dt 79 10 → dt498 82 j = dt 82 j := fun j hj => (h497_2 j (by omega)).trans (BL480 j hj)
              have Y506 := (h497_2 _ (by omega)).trans Y481
              have Y507 := (h497_2 _ (by omega)).trans Y482
              have Y508 := h497_1
              obtain ⟨j509, ej510, hc511⟩ := RSX_1 h497_0 (by decide)
              have hp512 : (gAF (KF 0 b n) (VF b n) (dt 79 10)) i = (hA1 (KF 0 b n) (VF b n) 4) j509 := hp486.trans ((show (hA0 (KF 0 b n) (VF b n) 4 ((VF b n) (i + 1))) j483 = gB ((gA (KF 0 b n) (VF b n) 3) j483) (hA1 (KF 0 b n) (VF b n) 4) by exact (hA0_p rfl).trans (by unfold gOt; rw [if_neg (by omega)])).trans (by rw [ej510]; rfl))
              have hi513 : j509 ≤ t := by have z := gA_M (K := (KF 0 b n)) (V := (VF b n)) (m := 3) (i := j483) hz; rw [ej510] at z; have y := z rfl; simp only at y; omega
              have cr514 := CUR_R hc511 (.inl rfl)
              have cb515 := CUR_b hc511
              have cv516 := CUR_v hc511
              have ck517 := KZ_lt (i := j509) hz
              have c1518 := (hc511).1
              have ci519 := hi513
              have ej520 : j509 = j483 + 1 := by have z_ := gA_at (K := (KF 0 b n)) (V := (VF b n)) (m := 3) (i := j483) (by rw [ej510]); rw [ej510] at z_; exact z_
              refine go_to (k := 13) (pc' := 148) (L' := [some (.inr (.inr (some 79))), some (.inl 4)]) (st' := [.inl 2, .inl 2, .inr (.inr (some 79))]) (w' := (SH, dt498)) (fun _ => rfl) ?_
              refine go_call (Q' := _) rfl rfl rfl rfl rfl (sp_X6_argument_g0 L xs sio (d + 0) dt498 hI499 b n t j509 (by first | exact hbb | (rw [show dt498 85 = dt 85 from funext (hF501 85 (by decide)), show dt498 79 12 = dt 79 12 by omega]; exact hbb)) (by omega) hz ht hc511 hi513 hn5 2 ⟨by omega, by omega⟩ 2 ⟨by omega, by omega⟩ (by first | trivial | omega) (by first | trivial | omega)) ?_
              rintro _ _ ⟨dt522, rfl, hI523, hF524, h521⟩
              refine ⟨rfl, ?_⟩
              have hF525 : Fr [79, 82] dt dt522 := Fr_tr hF501 hF524 (by decide)
              rcases h521 with ⟨rfl, h521⟩ | ⟨rfl, h521⟩
              · skip
                obtain ⟨h521_0, h521_1, h521_2, h521_3, h521_4⟩ := h521
                have fl526 := RSX_0 h521_0 rfl
                have fe527 : (gAF (KF 0 b n) (VF b n) (dt 79 10)) i = (gA (KF 0 b n) (VF b n) 2) j509 := hp512.trans ((show (hA1 (KF 0 b n) (VF b n) 4) j509 = gB ((gA (KF 0 b n) (VF b n) 2) j509) (hA2 (KF 0 b n) (VF b n) 4) by first | exact hA1_p (by decide) | (rw [hA0_n (by decide)]; exact hA1_p (by decide))).trans (gB_no fl526.1))
                refine go_ret (k := 3) (r := some (.inl 0)) (w1 := (SH, dt522)) (fun _ => rfl) ?_
                exact ⟨dt522, rfl, hI523, hF525, (Or.inl ⟨rfl, ⟨by first | exact RSX_f fe527 fl526 (by omega) (by omega) | exact RSX_no (k := 1) (j := j509) (hp512.trans (by show gAF _ _ _ _ = _; unfold gAF; rw [if_pos (by omega)])) (by decide) (by omega) (by show _ = ((TP b n j509 : Nat) : Int); omega) | exact RSX_no (k := 3) (j := j509) (hp512.trans (by show gAF _ _ _ _ = _; unfold gAF; rw [if_neg (by omega), if_pos (by omega)])) (by decide) (by omega) (by show _ = ((TP b n j509 : Nat) : Int); omega) | exact RSX_no (k := 2) (j := j509) (hp512.trans (by exact (hA0_p rfl).trans (by unfold gOt; rw [if_pos (by omega)]; rfl))) (by decide) (by omega) (by show _ = ((TP b n j509 : Nat) : Int); omega), by first | trivial | omega, by first | trivial | omega, by first | trivial | omega⟩⟩)⟩
              · skip
                obtain ⟨h521_0, h521_1, h521_2, h521_3, h521_4, h521_5, h521_6, h521_7, h521_8, h521_9, h521_10, h521_11⟩ := h521
                have ee528 : dt498 79 10 = dt 79 10 := by omega
                rw [ee528] at h521_1 h521_2
                have BL529 : ∀ j : Nat, (j : Int) < 5 * dt 79 10 → dt522 82 j = dt 82 j := fun j hj => (h521_2 j (by omega)).trans (BL505 j hj)
                have Y530 := (h521_2 _ (by omega)).trans Y506
                have Y531 := (h521_2 _ (by omega)).trans Y507
                have Y532 := (h521_2 _ (by omega)).trans Y508
                have Y533 := h521_1
                obtain ⟨j534, ej535, hc536⟩ := RSX_1 h521_0 (by decide)
                have hp537 : (gAF (KF 0 b n) (VF b n) (dt 79 10)) i = (hA2 (KF 0 b n) (VF b n) 4) j534 := hp512.trans ((show (hA1 (KF 0 b n) (VF b n) 4) j509 = gB ((gA (KF 0 b n) (VF b n) 2) j509) (hA2 (KF 0 b n) (VF b n) 4) by first | exact hA1_p (by decide) | (rw [hA0_n (by decide)]; exact hA1_p (by decide))).trans (by rw [ej535]; rfl))
                have hi538 : j534 ≤ t := by have z := gA_M (K := (KF 0 b n)) (V := (VF b n)) (m := 2) (i := j509) hz; rw [ej535] at z; have y := z rfl; simp only at y; omega
                have cr539 := CUR_R hc536 (.inl rfl)
                have cb540 := CUR_b hc536
                have cv541 := CUR_v hc536
                have ck542 := KZ_lt (i := j534) hz
                have c1543 := (hc536).1
                have ci544 := hi538
                have ej545 : j534 = j509 + 1 := by have z_ := gA_at (K := (KF 0 b n)) (V := (VF b n)) (m := 2) (i := j509) (by rw [ej535]); rw [ej535] at z_; exact z_
                refine go_to (k := 13) (pc' := 179) (L' := [some (.inr (.inr (some 79))), some (.inl 4)]) (st' := [.inl 3, .inl 3, .inr (.inr (some 79))]) (w' := (SH, dt522)) (fun _ => rfl) ?_
                refine go_call (Q' := _) rfl rfl rfl rfl rfl (sp_X6_argument_g0 L xs sio (d + 0) dt522 hI523 b n t j534 (by first | exact hbb | (rw [show dt522 85 = dt 85 from funext (hF525 85 (by decide)), show dt522 79 12 = dt 79 12 by omega]; exact hbb)) (by omega) hz ht hc536 hi538 hn5 3 ⟨by omega, by omega⟩ 3 ⟨by omega, by omega⟩ (by first | trivial | omega) (by first | trivial | omega)) ?_
                rintro _ _ ⟨dt547, rfl, hI548, hF549, h546⟩
                refine ⟨rfl, ?_⟩
                have hF550 : Fr [79, 82] dt dt547 := Fr_tr hF525 hF549 (by decide)
                rcases h546 with ⟨rfl, h546⟩ | ⟨rfl, h546⟩
                · skip
                  obtain ⟨h546_0, h546_1, h546_2, h546_3, h546_4⟩ := h546
                  have fl551 := RSX_0 h546_0 rfl
                  have fe552 : (gAF (KF 0 b n) (VF b n) (dt 79 10)) i = (gA (KF 0 b n) (VF b n) 3) j534 := hp537.trans ((show (hA2 (KF 0 b n) (VF b n) 4) j534 = gB ((gA (KF 0 b n) (VF b n) 3) j534) (hA3 (KF 0 b n) (VF b n) 4) by first | exact hA2_p (by decide) | (rw [hA1_n (by decide)]; exact hA2_p (by decide)) | (rw [hA0_n (by decide), hA1_n (by decide)]; exact hA2_p (by decide))).trans (gB_no fl551.1))
                  refine go_ret (k := 3) (r := some (.inl 0)) (w1 := (SH, dt547)) (fun _ => rfl) ?_
                  exact ⟨dt547, rfl, hI548, hF550, (Or.inl ⟨rfl, ⟨by first | exact RSX_f fe552 fl551 (by omega) (by omega) | exact RSX_no (k := 1) (j := j534) (hp537.trans (by show gAF _ _ _ _ = _; unfold gAF; rw [if_pos (by omega)])) (by decide) (by omega) (by show _ = ((TP b n j534 : Nat) : Int); omega) | exact RSX_no (k := 3) (j := j534) (hp537.trans (by show gAF _ _ _ _ = _; unfold gAF; rw [if_neg (by omega), if_pos (by omega)])) (by decide) (by omega) (by show _ = ((TP b n j534 : Nat) : Int); omega) | exact RSX_no (k := 2) (j := j534) (hp537.trans (by exact (hA0_p rfl).trans (by unfold gOt; rw [if_pos (by omega)]; rfl))) (by decide) (by omega) (by show _ = ((TP b n j534 : Nat) : Int); omega), by first | trivial | omega, by first | trivial | omega, by first | trivial | omega⟩⟩)⟩
                · skip
                  obtain ⟨h546_0, h546_1, h546_2, h546_3, h546_4, h546_5, h546_6, h546_7, h546_8, h546_9, h546_10, h546_11⟩ := h546
                  have ee553 : dt522 79 10 = dt 79 10 := by omega
                  rw [ee553] at h546_1 h546_2
                  have BL554 : ∀ j : Nat, (j : Int) < 5 * dt 79 10 → dt547 82 j = dt 82 j := fun j hj => (h546_2 j (by omega)).trans (BL529 j hj)
                  have Y555 := (h546_2 _ (by omega)).trans Y530
                  have Y556 := (h546_2 _ (by omega)).trans Y531
                  have Y557 := (h546_2 _ (by omega)).trans Y532
                  have Y558 := (h546_2 _ (by omega)).trans Y533
                  have Y559 := h546_1
                  obtain ⟨j560, ej561, hc562⟩ := RSX_1 h546_0 (by decide)
                  have hp563 : (gAF (KF 0 b n) (VF b n) (dt 79 10)) i = (hA3 (KF 0 b n) (VF b n) 4) j560 := hp537.trans ((show (hA2 (KF 0 b n) (VF b n) 4) j534 = gB ((gA (KF 0 b n) (VF b n) 3) j534) (hA3 (KF 0 b n) (VF b n) 4) by first | exact hA2_p (by decide) | (rw [hA1_n (by decide)]; exact hA2_p (by decide)) | (rw [hA0_n (by decide), hA1_n (by decide)]; exact hA2_p (by decide))).trans (by rw [ej561]; rfl))
                  have hi564 : j560 ≤ t := by have z := gA_M (K := (KF 0 b n)) (V := (VF b n)) (m := 3) (i := j534) hz; rw [ej561] at z; have y := z rfl; simp only at y; omega
                  have cr565 := CUR_R hc562 (.inl rfl)
                  have cb566 := CUR_b hc562
                  have cv567 := CUR_v hc562
                  have ck568 := KZ_lt (i := j560) hz
                  have c1569 := (hc562).1
                  have ci570 := hi564
                  have ej571 : j560 = j534 + 1 := by have z_ := gA_at (K := (KF 0 b n)) (V := (VF b n)) (m := 3) (i := j534) (by rw [ej561]); rw [ej561] at z_; exact z_
                  refine go_to (k := 6) (pc' := 208) (L' := [some (.inr (.inr (some 79))), some (.inl 4)]) (st' := [.inl 159, .inr (.inr (some 79))]) (w' := (SH, dt547)) (fun _ => rfl) ?_
                  refine go_call (Q' := _) rfl rfl rfl rfl rfl (sp_X6_need0_g0 L xs sio (d + 1) dt547 hI548 b n t j560 (by first | exact hbb | (rw [show dt547 85 = dt 85 from funext (hF550 85 (by decide)), show dt547 79 12 = dt 79 12 by omega]; exact hbb)) (by omega) hz ht hc562 hi564 hn5 159 ⟨by omega, by omega⟩ (by first | trivial | omega)) ?_
                  rintro _ _ ⟨dt573, rfl, hI574, hF575, h572⟩
                  refine ⟨rfl, ?_⟩
                  have hF576 : Fr [79, 82] dt dt573 := Fr_tr hF550 hF575 (by decide)
                  rcases h572 with ⟨rfl, h572⟩ | ⟨rfl, h572⟩
                  · skip
                    obtain ⟨h572_0, h572_1, h572_2, h572_3, h572_4⟩ := h572
                    have BL577 : ∀ j : Nat, (j : Int) < 5 * dt 79 10 → dt573 82 j = dt 82 j := fun j hj => (hF575 82 (by decide) j).trans (BL554 j hj)
                    have Y578 := (hF575 82 (by decide) _).trans Y555
                    have Y579 := (hF575 82 (by decide) _).trans Y556
                    have Y580 := (hF575 82 (by decide) _).trans Y557
                    have Y581 := (hF575 82 (by decide) _).trans Y558
                    have Y582 := (hF575 82 (by decide) _).trans Y559
                    have fl583 := RSX_0 h572_0 rfl
                    have fe584 : (gAF (KF 0 b n) (VF b n) (dt 79 10)) i = (gK (KF 0 b n) (159 - 100)) j560 := hp563.trans ((show (hA3 (KF 0 b n) (VF b n) 4) j560 = gB ((gK (KF 0 b n) (159 - 100)) j560) gOk by first | exact gB_id.symm | ((repeat (first | rw [hA0_n (by decide)] | rw [hA1_n (by decide)] | rw [hA2_n (by decide)] | rw [hA3_n (by decide)])); exact gB_id.symm)).trans (gB_no fl583.1))
                    refine go_ret (k := 1) (r := some (.inl 0)) (w1 := (SH, dt573)) (fun _ => rfl) ?_
                    exact ⟨dt573, rfl, hI574, hF576, (Or.inl ⟨rfl, ⟨by first | exact RSX_f fe584 fl583 (by omega) (by omega) | exact RSX_no (k := 1) (j := j560) (hp563.trans (by show gAF _ _ _ _ = _; unfold gAF; rw [if_pos (by omega)])) (by decide) (by omega) (by show _ = ((TP b n j560 : Nat) : Int); omega) | exact RSX_no (k := 3) (j := j560) (hp563.trans (by show gAF _ _ _ _ = _; unfold gAF; rw [if_neg (by omega), if_pos (by omega)])) (by decide) (by omega) (by show _ = ((TP b n j560 : Nat) : Int); omega) | exact RSX_no (k := 2) (j := j560) (hp563.trans (by exact (hA0_p rfl).trans (by unfold gOt; rw [if_pos (by omega)]; rfl))) (by decide) (by omega) (by show _ = ((TP b n j560 : Nat) : Int); omega), by first | trivial | omega, by first | trivial | omega, by first | trivial | omega⟩⟩)⟩
                  · skip
                    obtain ⟨h572_0, h572_1, h572_2, h572_3, h572_4, h572_5, h572_6, h572_7, h572_8, h572_9⟩ := h572
                    have BL585 : ∀ j : Nat, (j : Int) < 5 * dt 79 10 → dt573 82 j = dt 82 j := fun j hj => (hF575 82 (by decide) j).trans (BL554 j hj)
                    have Y586 := (hF575 82 (by decide) _).trans Y555
                    have Y587 := (hF575 82 (by decide) _).trans Y556
                    have Y588 := (hF575 82 (by decide) _).trans Y557
                    have Y589 := (hF575 82 (by decide) _).trans Y558
                    have Y590 := (hF575 82 (by decide) _).trans Y559
                    obtain ⟨j591, ej592, hc593⟩ := RSX_1 h572_0 (by decide)
                    have hp594 : (gAF (KF 0 b n) (VF b n) (dt 79 10)) i = gOk j591 := hp563.trans ((show (hA3 (KF 0 b n) (VF b n) 4) j560 = gB ((gK (KF 0 b n) (159 - 100)) j560) gOk by first | exact gB_id.symm | ((repeat (first | rw [hA0_n (by decide)] | rw [hA1_n (by decide)] | rw [hA2_n (by decide)] | rw [hA3_n (by decide)])); exact gB_id.symm)).trans (by rw [ej592]; rfl))
                    have hi595 : j591 ≤ t := by have z := (fun (h : KZ (KF 0 b n) t) => gK_M (K := (KF 0 b n)) (k := 159 - 100) (i := j560) h (by decide)) hz; rw [ej592] at z; have y := z rfl; simp only at y; omega
                    have cr596 := CUR_R hc593 (.inl rfl)
                    have cb597 := CUR_b hc593
                    have cv598 := CUR_v hc593
                    have ck599 := KZ_lt (i := j591) hz
                    have c1600 := (hc593).1
                    have ci601 := hi595
                    refine go_ret (k := 1) (r := some (.inl 1)) (w1 := (SH, dt573)) (fun _ => rfl) ?_
                    exact ⟨dt573, rfl, hI574, hF576, (Or.inr ⟨rfl, ⟨by exact RSX_ok hp594 hc593, by first | trivial | omega, by unfold ARF ATT ABB; exact ⟨by rw [Y586]; omega, (by first | exact Y587.trans (congrArg (VF b n) (by omega)) | (rw [Y587]; congr 1; omega)), fun z_ => by first | (exfalso; omega) | (rw [if_pos (by omega)]; exact (by first | exact Y589.trans (congrArg (VF b n) (by omega)) | (rw [Y589]; congr 1; omega))) | (rw [if_neg (by omega)]; exact (by first | exact Y589.trans (congrArg (VF b n) (by omega)) | (rw [Y589]; congr 1; omega))), fun z_ => by first | (exfalso; omega) | (rw [if_pos (by omega)]; exact (by first | exact Y590.trans (congrArg (VF b n) (by omega)) | (rw [Y590]; congr 1; omega))) | (rw [if_neg (by omega), if_pos (by omega)]; exact (by first | exact Y590.trans (congrArg (VF b n) (by omega)) | (rw [Y590]; congr 1; omega))) | (rw [if_neg (by omega), if_neg (by omega)]; exact (by first | exact Y590.trans (congrArg (VF b n) (by omega)) | (rw [Y590]; congr 1; omega))), fun z_ => by first | (exfalso; omega) | exact (by first | exact Y590.trans (congrArg (VF b n) (by omega)) | (rw [Y590]; congr 1; omega)), fun z_ => by first | (exfalso; omega) | exact (by first | exact Y588.trans (congrArg (VF b n) (by omega)) | (rw [Y588]; congr 1; omega))⟩, by exact BL585, by first | trivial | omega, by exact (InvC_get (by assumption) 79 15 rfl rfl).2, by first | trivial | omega, by first | trivial | omega, by first | trivial | omega, by first | trivial | omega, by first | trivial | omega, by first | trivial | omega⟩⟩)⟩
          · skip
            have r602 : 0 ≤ dt473 79 16 ∧ dt473 79 16 ≤ 9999 := InvC_get hI474 79 16 rfl rfl
            have r603 : 0 ≤ dt473 79 10 ∧ dt473 79 10 ≤ 24 := InvC_get hI474 79 10 rfl rfl
            refine go_to (k := 10) (pc' := 109) (L' := [some (.inr (.inr (some 79))), some (.inl 4)]) (st' := [.inl ((5 * (dt473 79 10)) + 1), .inr (.inr (some 82)), .inl (dt473 79 16)]) (w' := (SH, dt473)) (fun _ => rfl) ?_
            have r604 : (-2147483648) ≤ dt473 82 (((5 * (dt473 79 10)) + 1).toNat) ∧ dt473 82 (((5 * (dt473 79 10)) + 1).toNat) ≤ 2147483647 := InvC_get hI474 82 (((5 * (dt473 79 10)) + 1).toNat) rfl rfl
            refine go_smp (L' := [some (.inr (.inr (some 79))), some (.inl 4)]) (st' := [.inl (dt473 82 (((5 * (dt473 79 10)) + 1).toNat)), .inl (dt473 79 16)]) (w' := (SH, dt473)) rfl rfl (s_iald (n := 120) (f := dt473 82) rfl ⟨by omega, by omega⟩) ?_
            refine go_if (k := 1) (p1 := 119) (p2 := 113) (L' := [some (.inr (.inr (some 79))), some (.inl 4)]) (st' := []) (w' := (SH, dt473)) (fun _ => rfl) (c_ne (a := dt473 79 16) (b := dt473 82 (((5 * (dt473 79 10)) + 1).toNat)) ⟨by omega, by omega⟩ ⟨by omega, by omega⟩) (fun c605 => ?_) (fun c605 => ?_)
            · skip
              refine go_to (k := 3) (pc' := 122) (L' := [some (.inr (.inr (some 79))), some (.inl 4)]) (st' := [.inl 3, .inl 4, .inr (.inr (some 79))]) (w' := (SH, dt473)) (fun _ => rfl) ?_
              refine go_call (Q' := _) rfl rfl rfl rfl rfl (sp_X6_argument_g0 L xs sio (d + 0) dt473 hI474 b n t j483 (by first | exact hbb | (rw [show dt473 85 = dt 85 from funext (hF476 85 (by decide)), show dt473 79 12 = dt 79 12 by omega]; exact hbb)) (by omega) hz ht hc485 hi487 hn5 4 ⟨by omega, by omega⟩ 3 ⟨by omega, by omega⟩ (by first | trivial | omega) (by first | trivial | omega)) ?_
              rintro _ _ ⟨dt607, rfl, hI608, hF609, h606⟩
              refine ⟨rfl, ?_⟩
              have hF610 : Fr [79, 82] dt dt607 := Fr_tr hF476 hF609 (by decide)
              rcases h606 with ⟨rfl, h606⟩ | ⟨rfl, h606⟩
              · skip
                obtain ⟨h606_0, h606_1, h606_2, h606_3, h606_4⟩ := h606
                have fl611 := RSX_0 h606_0 rfl
                have fe612 : (gAF (KF 0 b n) (VF b n) (dt 79 10)) i = (gA (KF 0 b n) (VF b n) 3) j483 := hp486.trans ((show (hA0 (KF 0 b n) (VF b n) 4 ((VF b n) (i + 1))) j483 = gB ((gA (KF 0 b n) (VF b n) 3) j483) (hA1 (KF 0 b n) (VF b n) 4) by exact (hA0_p rfl).trans (by unfold gOt; rw [if_neg (by omega)])).trans (gB_no fl611.1))
                refine go_ret (k := 3) (r := some (.inl 0)) (w1 := (SH, dt607)) (fun _ => rfl) ?_
                exact ⟨dt607, rfl, hI608, hF610, (Or.inl ⟨rfl, ⟨by first | exact RSX_f fe612 fl611 (by omega) (by omega) | exact RSX_no (k := 1) (j := j483) (hp486.trans (by show gAF _ _ _ _ = _; unfold gAF; rw [if_pos (by omega)])) (by decide) (by omega) (by show _ = ((TP b n j483 : Nat) : Int); omega) | exact RSX_no (k := 3) (j := j483) (hp486.trans (by show gAF _ _ _ _ = _; unfold gAF; rw [if_neg (by omega), if_pos (by omega)])) (by decide) (by omega) (by show _ = ((TP b n j483 : Nat) : Int); omega) | exact RSX_no (k := 2) (j := j483) (hp486.trans (by exact (hA0_p rfl).trans (by unfold gOt; rw [if_pos (by omega)]; rfl))) (by decide) (by omega) (by show _ = ((TP b n j483 : Nat) : Int); omega), by first | trivial | omega, by first | trivial | omega, by first | trivial | omega⟩⟩)⟩
              · skip
                obtain ⟨h606_0, h606_1, h606_2, h606_3, h606_4, h606_5, h606_6, h606_7, h606_8, h606_9, h606_10, h606_11⟩ := h606
                have ee613 : dt473 79 10 = dt 79 10 := by omega
                rw [ee613] at h606_1 h606_2
                have BL614 : ∀ j : Nat, (j : Int) < 5 * dt 79 10 → dt607 82 j = dt 82 j := fun j hj => (h606_2 j (by omega)).trans (BL480 j hj)
                have Y615 := (h606_2 _ (by omega)).trans Y481
                have Y616 := (h606_2 _ (by omega)).trans Y482
                have Y617 := h606_1
                obtain ⟨j618, ej619, hc620⟩ := RSX_1 h606_0 (by decide)
                have hp621 : (gAF (KF 0 b n) (VF b n) (dt 79 10)) i = (hA1 (KF 0 b n) (VF b n) 4) j618 := hp486.trans ((show (hA0 (KF 0 b n) (VF b n) 4 ((VF b n) (i + 1))) j483 = gB ((gA (KF 0 b n) (VF b n) 3) j483) (hA1 (KF 0 b n) (VF b n) 4) by exact (hA0_p rfl).trans (by unfold gOt; rw [if_neg (by omega)])).trans (by rw [ej619]; rfl))
                have hi622 : j618 ≤ t := by have z := gA_M (K := (KF 0 b n)) (V := (VF b n)) (m := 3) (i := j483) hz; rw [ej619] at z; have y := z rfl; simp only at y; omega
                have cr623 := CUR_R hc620 (.inl rfl)
                have cb624 := CUR_b hc620
                have cv625 := CUR_v hc620
                have ck626 := KZ_lt (i := j618) hz
                have c1627 := (hc620).1
                have ci628 := hi622
                have ej629 : j618 = j483 + 1 := by have z_ := gA_at (K := (KF 0 b n)) (V := (VF b n)) (m := 3) (i := j483) (by rw [ej619]); rw [ej619] at z_; exact z_
                refine go_to (k := 13) (pc' := 148) (L' := [some (.inr (.inr (some 79))), some (.inl 4)]) (st' := [.inl 2, .inl 2, .inr (.inr (some 79))]) (w' := (SH, dt607)) (fun _ => rfl) ?_
                refine go_call (Q' := _) rfl rfl rfl rfl rfl (sp_X6_argument_g0 L xs sio (d + 0) dt607 hI608 b n t j618 (by first | exact hbb | (rw [show dt607 85 = dt 85 from funext (hF610 85 (by decide)), show dt607 79 12 = dt 79 12 by omega]; exact hbb)) (by omega) hz ht hc620 hi622 hn5 2 ⟨by omega, by omega⟩ 2 ⟨by omega, by omega⟩ (by first | trivial | omega) (by first | trivial | omega)) ?_
                rintro _ _ ⟨dt631, rfl, hI632, hF633, h630⟩
                refine ⟨rfl, ?_⟩
                have hF634 : Fr [79, 82] dt dt631 := Fr_tr hF610 hF633 (by decide)
                rcases h630 with ⟨rfl, h630⟩ | ⟨rfl, h630⟩
                · skip
                  obtain ⟨h630_0, h630_1, h630_2, h630_3, h630_4⟩ := h630
                  have fl635 := RSX_0 h630_0 rfl
                  have fe636 : (gAF (KF 0 b n) (VF b n) (dt 79 10)) i = (gA (KF 0 b n) (VF b n) 2) j618 := hp621.trans ((show (hA1 (KF 0 b n) (VF b n) 4) j618 = gB ((gA (KF 0 b n) (VF b n) 2) j618) (hA2 (KF 0 b n) (VF b n) 4) by first | exact hA1_p (by decide) | (rw [hA0_n (by decide)]; exact hA1_p (by decide))).trans (gB_no fl635.1))
                  refine go_ret (k := 3) (r := some (.inl 0)) (w1 := (SH, dt631)) (fun _ => rfl) ?_
                  exact ⟨dt631, rfl, hI632, hF634, (Or.inl ⟨rfl, ⟨by first | exact RSX_f fe636 fl635 (by omega) (by omega) | exact RSX_no (k := 1) (j := j618) (hp621.trans (by show gAF _ _ _ _ = _; unfold gAF; rw [if_pos (by omega)])) (by decide) (by omega) (by show _ = ((TP b n j618 : Nat) : Int); omega) | exact RSX_no (k := 3) (j := j618) (hp621.trans (by show gAF _ _ _ _ = _; unfold gAF; rw [if_neg (by omega), if_pos (by omega)])) (by decide) (by omega) (by show _ = ((TP b n j618 : Nat) : Int); omega) | exact RSX_no (k := 2) (j := j618) (hp621.trans (by exact (hA0_p rfl).trans (by unfold gOt; rw [if_pos (by omega)]; rfl))) (by decide) (by omega) (by show _ = ((TP b n j618 : Nat) : Int); omega), by first | trivial | omega, by first | trivial | omega, by first | trivial | omega⟩⟩)⟩
                · skip
                  obtain ⟨h630_0, h630_1, h630_2, h630_3, h630_4, h630_5, h630_6, h630_7, h630_8, h630_9, h630_10, h630_11⟩ := h630
                  have ee637 : dt607 79 10 = dt 79 10 := by omega
                  rw [ee637] at h630_1 h630_2
                  have BL638 : ∀ j : Nat, (j : Int) < 5 * dt 79 10 → dt631 82 j = dt 82 j := fun j hj => (h630_2 j (by omega)).trans (BL614 j hj)
                  have Y639 := (h630_2 _ (by omega)).trans Y615
                  have Y640 := (h630_2 _ (by omega)).trans Y616
                  have Y641 := (h630_2 _ (by omega)).trans Y617
                  have Y642 := h630_1
                  obtain ⟨j643, ej644, hc645⟩ := RSX_1 h630_0 (by decide)
                  have hp646 : (gAF (KF 0 b n) (VF b n) (dt 79 10)) i = (hA2 (KF 0 b n) (VF b n) 4) j643 := hp621.trans ((show (hA1 (KF 0 b n) (VF b n) 4) j618 = gB ((gA (KF 0 b n) (VF b n) 2) j618) (hA2 (KF 0 b n) (VF b n) 4) by first | exact hA1_p (by decide) | (rw [hA0_n (by decide)]; exact hA1_p (by decide))).trans (by rw [ej644]; rfl))
                  have hi647 : j643 ≤ t := by have z := gA_M (K := (KF 0 b n)) (V := (VF b n)) (m := 2) (i := j618) hz; rw [ej644] at z; have y := z rfl; simp only at y; omega
                  have cr648 := CUR_R hc645 (.inl rfl)
                  have cb649 := CUR_b hc645
                  have cv650 := CUR_v hc645
                  have ck651 := KZ_lt (i := j643) hz
                  have c1652 := (hc645).1
                  have ci653 := hi647
                  have ej654 : j643 = j618 + 1 := by have z_ := gA_at (K := (KF 0 b n)) (V := (VF b n)) (m := 2) (i := j618) (by rw [ej644]); rw [ej644] at z_; exact z_
                  refine go_to (k := 13) (pc' := 179) (L' := [some (.inr (.inr (some 79))), some (.inl 4)]) (st' := [.inl 3, .inl 3, .inr (.inr (some 79))]) (w' := (SH, dt631)) (fun _ => rfl) ?_
                  refine go_call (Q' := _) rfl rfl rfl rfl rfl (sp_X6_argument_g0 L xs sio (d + 0) dt631 hI632 b n t j643 (by first | exact hbb | (rw [show dt631 85 = dt 85 from funext (hF634 85 (by decide)), show dt631 79 12 = dt 79 12 by omega]; exact hbb)) (by omega) hz ht hc645 hi647 hn5 3 ⟨by omega, by omega⟩ 3 ⟨by omega, by omega⟩ (by first | trivial | omega) (by first | trivial | omega)) ?_
                  rintro _ _ ⟨dt656, rfl, hI657, hF658, h655⟩
                  refine ⟨rfl, ?_⟩
                  have hF659 : Fr [79, 82] dt dt656 := Fr_tr hF634 hF658 (by decide)
                  rcases h655 with ⟨rfl, h655⟩ | ⟨rfl, h655⟩
                  · skip
                    obtain ⟨h655_0, h655_1, h655_2, h655_3, h655_4⟩ := h655
                    have fl660 := RSX_0 h655_0 rfl
                    have fe661 : (gAF (KF 0 b n) (VF b n) (dt 79 10)) i = (gA (KF 0 b n) (VF b n) 3) j643 := hp646.trans ((show (hA2 (KF 0 b n) (VF b n) 4) j643 = gB ((gA (KF 0 b n) (VF b n) 3) j643) (hA3 (KF 0 b n) (VF b n) 4) by first | exact hA2_p (by decide) | (rw [hA1_n (by decide)]; exact hA2_p (by decide)) | (rw [hA0_n (by decide), hA1_n (by decide)]; exact hA2_p (by decide))).trans (gB_no fl660.1))
                    refine go_ret (k := 3) (r := some (.inl 0)) (w1 := (SH, dt656)) (fun _ => rfl) ?_
                    exact ⟨dt656, rfl, hI657, hF659, (Or.inl ⟨rfl, ⟨by first | exact RSX_f fe661 fl660 (by omega) (by omega) | exact RSX_no (k := 1) (j := j643) (hp646.trans (by show gAF _ _ _ _ = _; unfold gAF; rw [if_pos (by omega)])) (by decide) (by omega) (by show _ = ((TP b n j643 : Nat) : Int); omega) | exact RSX_no (k := 3) (j := j643) (hp646.trans (by show gAF _ _ _ _ = _; unfold gAF; rw [if_neg (by omega), if_pos (by omega)])) (by decide) (by omega) (by show _ = ((TP b n j643 : Nat) : Int); omega) | exact RSX_no (k := 2) (j := j643) (hp646.trans (by exact (hA0_p rfl).trans (by unfold gOt; rw [if_pos (by omega)]; rfl))) (by decide) (by omega) (by show _ = ((TP b n j643 : Nat) : Int); omega), by first | trivial | omega, by first | trivial | omega, by first | trivial | omega⟩⟩)⟩
                  · skip
                    obtain ⟨h655_0, h655_1, h655_2, h655_3, h655_4, h655_5, h655_6, h655_7, h655_8, h655_9, h655_10, h655_11⟩ := h655
                    have ee662 : dt631 79 10 = dt 79 10 := by omega
                    rw [ee662] at h655_1 h655_2
                    have BL663 : ∀ j : Nat, (j : Int) < 5 * dt 79 10 → dt656 82 j = dt 82 j := fun j hj => (h655_2 j (by omega)).trans (BL638 j hj)
                    have Y664 := (h655_2 _ (by omega)).trans Y639
                    have Y665 := (h655_2 _ (by omega)).trans Y640
                    have Y666 := (h655_2 _ (by omega)).trans Y641
                    have Y667 := (h655_2 _ (by omega)).trans Y642
                    have Y668 := h655_1
                    obtain ⟨j669, ej670, hc671⟩ := RSX_1 h655_0 (by decide)
                    have hp672 : (gAF (KF 0 b n) (VF b n) (dt 79 10)) i = (hA3 (KF 0 b n) (VF b n) 4) j669 := hp646.trans ((show (hA2 (KF 0 b n) (VF b n) 4) j643 = gB ((gA (KF 0 b n) (VF b n) 3) j643) (hA3 (KF 0 b n) (VF b n) 4) by first | exact hA2_p (by decide) | (rw [hA1_n (by decide)]; exact hA2_p (by decide)) | (rw [hA0_n (by decide), hA1_n (by decide)]; exact hA2_p (by decide))).trans (by rw [ej670]; rfl))
                    have hi673 : j669 ≤ t := by have z := gA_M (K := (KF 0 b n)) (V := (VF b n)) (m := 3) (i := j643) hz; rw [ej670] at z; have y := z rfl; simp only at y; omega
                    have cr674 := CUR_R hc671 (.inl rfl)
                    have cb675 := CUR_b hc671
                    have cv676 := CUR_v hc671
                    have ck677 := KZ_lt (i := j669) hz
                    have c1678 := (hc671).1
                    have ci679 := hi673
                    have ej680 : j669 = j643 + 1 := by have z_ := gA_at (K := (KF 0 b n)) (V := (VF b n)) (m := 3) (i := j643) (by rw [ej670]); rw [ej670] at z_; exact z_
                    refine go_to (k := 6) (pc' := 208) (L' := [some (.inr (.inr (some 79))), some (.inl 4)]) (st' := [.inl 159, .inr (.inr (some 79))]) (w' := (SH, dt656)) (fun _ => rfl) ?_
                    refine go_call (Q' := _) rfl rfl rfl rfl rfl (sp_X6_need0_g0 L xs sio (d + 1) dt656 hI657 b n t j669 (by first | exact hbb | (rw [show dt656 85 = dt 85 from funext (hF659 85 (by decide)), show dt656 79 12 = dt 79 12 by omega]; exact hbb)) (by omega) hz ht hc671 hi673 hn5 159 ⟨by omega, by omega⟩ (by first | trivial | omega)) ?_
                    rintro _ _ ⟨dt682, rfl, hI683, hF684, h681⟩
                    refine ⟨rfl, ?_⟩
                    have hF685 : Fr [79, 82] dt dt682 := Fr_tr hF659 hF684 (by decide)
                    rcases h681 with ⟨rfl, h681⟩ | ⟨rfl, h681⟩
                    · skip
                      obtain ⟨h681_0, h681_1, h681_2, h681_3, h681_4⟩ := h681
                      have BL686 : ∀ j : Nat, (j : Int) < 5 * dt 79 10 → dt682 82 j = dt 82 j := fun j hj => (hF684 82 (by decide) j).trans (BL663 j hj)
                      have Y687 := (hF684 82 (by decide) _).trans Y664
                      have Y688 := (hF684 82 (by decide) _).trans Y665
                      have Y689 := (hF684 82 (by decide) _).trans Y666
                      have Y690 := (hF684 82 (by decide) _).trans Y667
                      have Y691 := (hF684 82 (by decide) _).trans Y668
                      have fl692 := RSX_0 h681_0 rfl
                      have fe693 : (gAF (KF 0 b n) (VF b n) (dt 79 10)) i = (gK (KF 0 b n) (159 - 100)) j669 := hp672.trans ((show (hA3 (KF 0 b n) (VF b n) 4) j669 = gB ((gK (KF 0 b n) (159 - 100)) j669) gOk by first | exact gB_id.symm | ((repeat (first | rw [hA0_n (by decide)] | rw [hA1_n (by decide)] | rw [hA2_n (by decide)] | rw [hA3_n (by decide)])); exact gB_id.symm)).trans (gB_no fl692.1))
                      refine go_ret (k := 1) (r := some (.inl 0)) (w1 := (SH, dt682)) (fun _ => rfl) ?_
                      exact ⟨dt682, rfl, hI683, hF685, (Or.inl ⟨rfl, ⟨by first | exact RSX_f fe693 fl692 (by omega) (by omega) | exact RSX_no (k := 1) (j := j669) (hp672.trans (by show gAF _ _ _ _ = _; unfold gAF; rw [if_pos (by omega)])) (by decide) (by omega) (by show _ = ((TP b n j669 : Nat) : Int); omega) | exact RSX_no (k := 3) (j := j669) (hp672.trans (by show gAF _ _ _ _ = _; unfold gAF; rw [if_neg (by omega), if_pos (by omega)])) (by decide) (by omega) (by show _ = ((TP b n j669 : Nat) : Int); omega) | exact RSX_no (k := 2) (j := j669) (hp672.trans (by exact (hA0_p rfl).trans (by unfold gOt; rw [if_pos (by omega)]; rfl))) (by decide) (by omega) (by show _ = ((TP b n j669 : Nat) : Int); omega), by first | trivial | omega, by first | trivial | omega, by first | trivial | omega⟩⟩)⟩
                    · skip
                      obtain ⟨h681_0, h681_1, h681_2, h681_3, h681_4, h681_5, h681_6, h681_7, h681_8, h681_9⟩ := h681
                      have BL694 : ∀ j : Nat, (j : Int) < 5 * dt 79 10 → dt682 82 j = dt 82 j := fun j hj => (hF684 82 (by decide) j).trans (BL663 j hj)
                      have Y695 := (hF684 82 (by decide) _).trans Y664
                      have Y696 := (hF684 82 (by decide) _).trans Y665
                      have Y697 := (hF684 82 (by decide) _).trans Y666
                      have Y698 := (hF684 82 (by decide) _).trans Y667
                      have Y699 := (hF684 82 (by decide) _).trans Y668
                      obtain ⟨j700, ej701, hc702⟩ := RSX_1 h681_0 (by decide)
                      have hp703 : (gAF (KF 0 b n) (VF b n) (dt 79 10)) i = gOk j700 := hp672.trans ((show (hA3 (KF 0 b n) (VF b n) 4) j669 = gB ((gK (KF 0 b n) (159 - 100)) j669) gOk by first | exact gB_id.symm | ((repeat (first | rw [hA0_n (by decide)] | rw [hA1_n (by decide)] | rw [hA2_n (by decide)] | rw [hA3_n (by decide)])); exact gB_id.symm)).trans (by rw [ej701]; rfl))
                      have hi704 : j700 ≤ t := by have z := (fun (h : KZ (KF 0 b n) t) => gK_M (K := (KF 0 b n)) (k := 159 - 100) (i := j669) h (by decide)) hz; rw [ej701] at z; have y := z rfl; simp only at y; omega
                      have cr705 := CUR_R hc702 (.inl rfl)
                      have cb706 := CUR_b hc702
                      have cv707 := CUR_v hc702
                      have ck708 := KZ_lt (i := j700) hz
                      have c1709 := (hc702).1
                      have ci710 := hi704
                      refine go_ret (k := 1) (r := some (.inl 1)) (w1 := (SH, dt682)) (fun _ => rfl) ?_
                      exact ⟨dt682, rfl, hI683, hF685, (Or.inr ⟨rfl, ⟨by exact RSX_ok hp703 hc702, by first | trivial | omega, by unfold ARF ATT ABB; exact ⟨by rw [Y695]; omega, (by first | exact Y696.trans (congrArg (VF b n) (by omega)) | (rw [Y696]; congr 1; omega)), fun z_ => by first | (exfalso; omega) | (rw [if_pos (by omega)]; exact (by first | exact Y698.trans (congrArg (VF b n) (by omega)) | (rw [Y698]; congr 1; omega))) | (rw [if_neg (by omega)]; exact (by first | exact Y698.trans (congrArg (VF b n) (by omega)) | (rw [Y698]; congr 1; omega))), fun z_ => by first | (exfalso; omega) | (rw [if_pos (by omega)]; exact (by first | exact Y699.trans (congrArg (VF b n) (by omega)) | (rw [Y699]; congr 1; omega))) | (rw [if_neg (by omega), if_pos (by omega)]; exact (by first | exact Y699.trans (congrArg (VF b n) (by omega)) | (rw [Y699]; congr 1; omega))) | (rw [if_neg (by omega), if_neg (by omega)]; exact (by first | exact Y699.trans (congrArg (VF b n) (by omega)) | (rw [Y699]; congr 1; omega))), fun z_ => by first | (exfalso; omega) | exact (by first | exact Y699.trans (congrArg (VF b n) (by omega)) | (rw [Y699]; congr 1; omega)), fun z_ => by first | (exfalso; omega) | exact (by first | exact Y697.trans (congrArg (VF b n) (by omega)) | (rw [Y697]; congr 1; omega))⟩, by exact BL694, by first | trivial | omega, by exact (InvC_get (by assumption) 79 15 rfl rfl).2, by first | trivial | omega, by first | trivial | omega, by first | trivial | omega, by first | trivial | omega, by first | trivial | omega, by first | trivial | omega⟩⟩)⟩
            · skip
              refine go_to (k := 2) (pc' := 115) (L' := [some (.inr (.inr (some 79))), some (.inl 4)]) (st' := [.inl 2, .inr (.inr (some 79))]) (w' := (SH, dt473)) (fun _ => rfl) ?_
              refine go_call (Q' := _) rfl rfl rfl rfl rfl (sp_X6_bad_g L xs sio (d + 8) dt473 hI474  2 ⟨by omega, by omega⟩ ) ?_
              rintro _ _ ⟨dt712, rfl, hI713, hF714, h711⟩
              refine ⟨rfl, ?_⟩
              have hF715 : Fr [79, 82] dt dt712 := Fr_tr hF476 hF714 (by decide)
              rcases h711 with ⟨rfl, h711⟩
              obtain ⟨h711_0, h711_1, h711_2, h711_3, h711_4, h711_5, h711_6, h711_7, h711_8, h711_9, h711_10, h711_11⟩ := h711
              have BL716 : ∀ j : Nat, (j : Int) < 5 * dt 79 10 → dt712 82 j = dt 82 j := fun j hj => (hF714 82 (by decide) j).trans (BL480 j hj)
              have Y717 := (hF714 82 (by decide) _).trans Y481
              have Y718 := (hF714 82 (by decide) _).trans Y482
              have hc719 : CUR 0 b n dt712 j483 := CUR_sm hc485 (by omega) (by omega) (by omega) (by omega)
              refine go_ret (k := 1) (r := some (.inl 0)) (w1 := (SH, dt712)) (fun _ => rfl) ?_
              exact ⟨dt712, rfl, hI713, hF715, (Or.inl ⟨rfl, ⟨by first | exact RSX_f hI hI (by omega) (by omega) | exact RSX_no (k := 1) (j := j483) (hp486.trans (by show gAF _ _ _ _ = _; unfold gAF; rw [if_pos (by omega)])) (by decide) (by omega) (by show _ = ((TP b n j483 : Nat) : Int); omega) | exact RSX_no (k := 3) (j := j483) (hp486.trans (by show gAF _ _ _ _ = _; unfold gAF; rw [if_neg (by omega), if_pos (by omega)])) (by decide) (by omega) (by show _ = ((TP b n j483 : Nat) : Int); omega) | exact RSX_no (k := 2) (j := j483) (hp486.trans (by exact (hA0_p rfl).trans (by unfold gOt; rw [if_pos (by omega)]; rfl))) (by decide) (by omega) (by show _ = ((TP b n j483 : Nat) : Int); omega), by first | trivial | omega, by first | trivial | omega, by first | trivial | omega⟩⟩)⟩
      · rw [hc7]
        refine go_to (k := 1) (pc' := 44) (L' := [some (.inr (.inr (some 79))), some (.inl 5)]) (st' := [.inr (.inr (some 79))]) (w' := (SH, dt)) (fun _ => rfl) ?_
        refine go_call (Q' := _) rfl rfl rfl rfl rfl (sp_X6_next0_p0 L xs sio (d + 2) dt hI   (by first | trivial | omega) (by first | trivial | omega)) ?_
        rintro _ _ ⟨dt721, rfl, hI722, hF723, h720⟩
        refine ⟨rfl, ?_⟩
        have hF724 : Fr [79, 82] dt dt721 := Fr_tr hF hF723 (by decide)
        rcases h720 with ⟨rfl, h720⟩
        obtain ⟨h720_0, h720_1, h720_2, h720_3, h720_4, h720_5, h720_6, h720_7, h720_8⟩ := h720
        have BL725 : ∀ j : Nat, (j : Int) < 5 * dt 79 10 → dt721 82 j = dt 82 j := fun j hj => (hF723 82 (by decide) j).trans ((fun _ _ => rfl) j hj)
        have hq726 := h720_0
        rw [hbb, show (dt 79 12).toNat = n by omega] at hq726
        have hc727 : CUR 0 b n dt721 (i + 1) := CUR_n hc hq726
        have hi728 : i + 1 ≤ t := by omega
        have hp729 : (gAF (KF 0 b n) (VF b n) (dt 79 10)) i = (gAct (KF 0 b n) (VF b n) 5) (i + 1) := (rfl : (gAF (KF 0 b n) (VF b n) (dt 79 10)) i = (gAF (KF 0 b n) (VF b n) (dt 79 10)) i).trans (by show gAF _ _ _ _ = _; unfold gAF; rw [if_neg (by omega), if_neg (by omega), show (KF 0 b n) i - 1000 = 5 by omega])
        have cr730 := CUR_R hc727 (.inl rfl)
        have cb731 := CUR_b hc727
        have cv732 := CUR_v hc727
        have ck733 := KZ_lt (i := (i + 1)) hz
        have c1734 := (hc727).1
        have ci735 := hi728
        have r736 : 0 ≤ dt721 79 10 ∧ dt721 79 10 ≤ 24 := InvC_get hI722 79 10 rfl rfl
        refine go_to (k := 7) (pc' := 58) (L' := [some (.inr (.inr (some 79))), some (.inl 5)]) (st' := [.inl 5, .inl (5 * (dt721 79 10)), .inr (.inr (some 82))]) (w' := (SH, dt721)) (fun _ => rfl) ?_
        have hI737 : InvC (u2 dt721 82 ((5 * (dt721 79 10)).toNat) 5) := InvC_u2 hI722 (lo := -2147483648) (hi := 2147483647) rfl rfl rfl (by omega) (by omega)
        have hF738 : Fr [79, 82] dt (u2 dt721 82 ((5 * (dt721 79 10)).toNat) 5) := Fr_u2 hF724 (by decide)
        have w739 : (u2 dt721 82 ((5 * (dt721 79 10)).toNat) 5) 79 2 = dt721 79 2 := rfl
        have w740 : (u2 dt721 82 ((5 * (dt721 79 10)).toNat) 5) 79 9 = dt721 79 9 := rfl
        have w741 : (u2 dt721 82 ((5 * (dt721 79 10)).toNat) 5) 79 10 = dt721 79 10 := rfl
        have w742 : (u2 dt721 82 ((5 * (dt721 79 10)).toNat) 5) 79 11 = dt721 79 11 := rfl
        have w743 : (u2 dt721 82 ((5 * (dt721 79 10)).toNat) 5) 79 12 = dt721 79 12 := rfl
        have w744 : (u2 dt721 82 ((5 * (dt721 79 10)).toNat) 5) 79 13 = dt721 79 13 := rfl
        have w745 : (u2 dt721 82 ((5 * (dt721 79 10)).toNat) 5) 79 14 = dt721 79 14 := rfl
        have w746 : (u2 dt721 82 ((5 * (dt721 79 10)).toNat) 5) 79 15 = dt721 79 15 := rfl
        have w747 : (u2 dt721 82 ((5 * (dt721 79 10)).toNat) 5) 79 16 = dt721 79 16 := rfl
        have w748 : (u2 dt721 82 ((5 * (dt721 79 10)).toNat) 5) 79 17 = dt721 79 17 := rfl
        have w749 : (u2 dt721 82 ((5 * (dt721 79 10)).toNat) 5) 79 18 = dt721 79 18 := rfl
        have w750 : (u2 dt721 82 ((5 * (dt721 79 10)).toNat) 5) 79 20 = dt721 79 20 := rfl
        have BL751 : ∀ j : Nat, (j : Int) < 5 * dt 79 10 → (u2 dt721 82 ((5 * (dt721 79 10)).toNat) 5) 82 j = dt 82 j := fun j hj => (u2_ne (by omega)).trans (BL725 j hj)
        have Y752 : (u2 dt721 82 ((5 * (dt721 79 10)).toNat) 5) 82 (5 * (dt 79 10)).toNat = 5 := by rw [show (5 * (dt 79 10)).toNat = (5 * (dt721 79 10)).toNat by omega]; exact u2_eq
        have hc753 : CUR 0 b n (u2 dt721 82 ((5 * (dt721 79 10)).toNat) 5) (i + 1) := CUR_sm hc727 rfl rfl rfl rfl
        refine go_smp (L' := [some (.inr (.inr (some 79))), some (.inl 5)]) (st' := []) (w' := (SH, (u2 dt721 82 ((5 * (dt721 79 10)).toNat) 5))) rfl rfl (s_iast (n := 120) rfl ⟨by omega, by omega⟩ ⟨by omega, by omega⟩) ?_
        refine go_to (k := 6) (pc' := 72) (L' := [some (.inr (.inr (some 79))), some (.inl 5)]) (st' := [.inl 3, .inl 1, .inr (.inr (some 79))]) (w' := (SH, (u2 dt721 82 ((5 * (dt721 79 10)).toNat) 5))) (fun _ => rfl) ?_
        refine go_call (Q' := _) rfl rfl rfl rfl rfl (sp_X6_argument_g0 L xs sio (d + 0) (u2 dt721 82 ((5 * (dt721 79 10)).toNat) 5) hI737 b n t (i + 1) (by first | exact hbb | (rw [show (u2 dt721 82 ((5 * (dt721 79 10)).toNat) 5) 85 = dt 85 from funext (hF738 85 (by decide)), show (u2 dt721 82 ((5 * (dt721 79 10)).toNat) 5) 79 12 = dt 79 12 by omega]; exact hbb)) (by omega) hz ht hc753 hi728 hn5 1 ⟨by omega, by omega⟩ 3 ⟨by omega, by omega⟩ (by first | trivial | omega) (by first | trivial | omega)) ?_
        rintro _ _ ⟨dt755, rfl, hI756, hF757, h754⟩
        refine ⟨rfl, ?_⟩
        have hF758 : Fr [79, 82] dt dt755 := Fr_tr hF738 hF757 (by decide)
        rcases h754 with ⟨rfl, h754⟩ | ⟨rfl, h754⟩
        · skip
          obtain ⟨h754_0, h754_1, h754_2, h754_3, h754_4⟩ := h754
          have fl759 := RSX_0 h754_0 rfl
          have fe760 : (gAF (KF 0 b n) (VF b n) (dt 79 10)) i = (gA (KF 0 b n) (VF b n) 3) (i + 1) := hp729.trans ((show (gAct (KF 0 b n) (VF b n) 5) (i + 1) = gB ((gA (KF 0 b n) (VF b n) 3) (i + 1)) (hA0 (KF 0 b n) (VF b n) 5 ((VF b n) (i + 1))) by exact hAc_n (by decide)).trans (gB_no fl759.1))
          refine go_ret (k := 3) (r := some (.inl 0)) (w1 := (SH, dt755)) (fun _ => rfl) ?_
          exact ⟨dt755, rfl, hI756, hF758, (Or.inl ⟨rfl, ⟨by first | exact RSX_f fe760 fl759 (by omega) (by omega) | exact RSX_no (k := 1) (j := (i + 1)) (hp729.trans (by show gAF _ _ _ _ = _; unfold gAF; rw [if_pos (by omega)])) (by decide) (by omega) (by show _ = ((TP b n (i + 1) : Nat) : Int); omega) | exact RSX_no (k := 3) (j := (i + 1)) (hp729.trans (by show gAF _ _ _ _ = _; unfold gAF; rw [if_neg (by omega), if_pos (by omega)])) (by decide) (by omega) (by show _ = ((TP b n (i + 1) : Nat) : Int); omega) | exact RSX_no (k := 2) (j := (i + 1)) (hp729.trans (by exact (hA0_p rfl).trans (by unfold gOt; rw [if_pos (by omega)]; rfl))) (by decide) (by omega) (by show _ = ((TP b n (i + 1) : Nat) : Int); omega), by first | trivial | omega, by first | trivial | omega, by first | trivial | omega⟩⟩)⟩
        · skip
          obtain ⟨h754_0, h754_1, h754_2, h754_3, h754_4, h754_5, h754_6, h754_7, h754_8, h754_9, h754_10, h754_11⟩ := h754
          have ee761 : (u2 dt721 82 ((5 * (dt721 79 10)).toNat) 5) 79 10 = dt 79 10 := by omega
          rw [ee761] at h754_1 h754_2
          have BL762 : ∀ j : Nat, (j : Int) < 5 * dt 79 10 → dt755 82 j = dt 82 j := fun j hj => (h754_2 j (by omega)).trans (BL751 j hj)
          have Y763 := (h754_2 _ (by omega)).trans Y752
          have Y764 := h754_1
          obtain ⟨j765, ej766, hc767⟩ := RSX_1 h754_0 (by decide)
          have hp768 : (gAF (KF 0 b n) (VF b n) (dt 79 10)) i = (hA0 (KF 0 b n) (VF b n) 5 ((VF b n) (i + 1))) j765 := hp729.trans ((show (gAct (KF 0 b n) (VF b n) 5) (i + 1) = gB ((gA (KF 0 b n) (VF b n) 3) (i + 1)) (hA0 (KF 0 b n) (VF b n) 5 ((VF b n) (i + 1))) by exact hAc_n (by decide)).trans (by rw [ej766]; rfl))
          have hi769 : j765 ≤ t := by have z := gA_M (K := (KF 0 b n)) (V := (VF b n)) (m := 3) (i := (i + 1)) hz; rw [ej766] at z; have y := z rfl; simp only at y; omega
          have cr770 := CUR_R hc767 (.inl rfl)
          have cb771 := CUR_b hc767
          have cv772 := CUR_v hc767
          have ck773 := KZ_lt (i := j765) hz
          have c1774 := (hc767).1
          have ci775 := hi769
          have ej776 : j765 = (i + 1) + 1 := by have z_ := gA_at (K := (KF 0 b n)) (V := (VF b n)) (m := 3) (i := (i + 1)) (by rw [ej766]); rw [ej766] at z_; exact z_
          refine go_to (k := 28) (pc' := 179) (L' := [some (.inr (.inr (some 79))), some (.inl 5)]) (st' := [.inl 3, .inl 3, .inr (.inr (some 79))]) (w' := (SH, dt755)) (fun _ => rfl) ?_
          refine go_call (Q' := _) rfl rfl rfl rfl rfl (sp_X6_argument_g0 L xs sio (d + 0) dt755 hI756 b n t j765 (by first | exact hbb | (rw [show dt755 85 = dt 85 from funext (hF758 85 (by decide)), show dt755 79 12 = dt 79 12 by omega]; exact hbb)) (by omega) hz ht hc767 hi769 hn5 3 ⟨by omega, by omega⟩ 3 ⟨by omega, by omega⟩ (by first | trivial | omega) (by first | trivial | omega)) ?_
          rintro _ _ ⟨dt778, rfl, hI779, hF780, h777⟩
          refine ⟨rfl, ?_⟩
          have hF781 : Fr [79, 82] dt dt778 := Fr_tr hF758 hF780 (by decide)
          rcases h777 with ⟨rfl, h777⟩ | ⟨rfl, h777⟩
          · skip
            obtain ⟨h777_0, h777_1, h777_2, h777_3, h777_4⟩ := h777
            have fl782 := RSX_0 h777_0 rfl
            have fe783 : (gAF (KF 0 b n) (VF b n) (dt 79 10)) i = (gA (KF 0 b n) (VF b n) 3) j765 := hp768.trans ((show (hA0 (KF 0 b n) (VF b n) 5 ((VF b n) (i + 1))) j765 = gB ((gA (KF 0 b n) (VF b n) 3) j765) (hA3 (KF 0 b n) (VF b n) 5) by first | exact hA2_p (by decide) | (rw [hA1_n (by decide)]; exact hA2_p (by decide)) | (rw [hA0_n (by decide), hA1_n (by decide)]; exact hA2_p (by decide))).trans (gB_no fl782.1))
            refine go_ret (k := 3) (r := some (.inl 0)) (w1 := (SH, dt778)) (fun _ => rfl) ?_
            exact ⟨dt778, rfl, hI779, hF781, (Or.inl ⟨rfl, ⟨by first | exact RSX_f fe783 fl782 (by omega) (by omega) | exact RSX_no (k := 1) (j := j765) (hp768.trans (by show gAF _ _ _ _ = _; unfold gAF; rw [if_pos (by omega)])) (by decide) (by omega) (by show _ = ((TP b n j765 : Nat) : Int); omega) | exact RSX_no (k := 3) (j := j765) (hp768.trans (by show gAF _ _ _ _ = _; unfold gAF; rw [if_neg (by omega), if_pos (by omega)])) (by decide) (by omega) (by show _ = ((TP b n j765 : Nat) : Int); omega) | exact RSX_no (k := 2) (j := j765) (hp768.trans (by exact (hA0_p rfl).trans (by unfold gOt; rw [if_pos (by omega)]; rfl))) (by decide) (by omega) (by show _ = ((TP b n j765 : Nat) : Int); omega), by first | trivial | omega, by first | trivial | omega, by first | trivial | omega⟩⟩)⟩
          · skip
            obtain ⟨h777_0, h777_1, h777_2, h777_3, h777_4, h777_5, h777_6, h777_7, h777_8, h777_9, h777_10, h777_11⟩ := h777
            have ee784 : dt755 79 10 = dt 79 10 := by omega
            rw [ee784] at h777_1 h777_2
            have BL785 : ∀ j : Nat, (j : Int) < 5 * dt 79 10 → dt778 82 j = dt 82 j := fun j hj => (h777_2 j (by omega)).trans (BL762 j hj)
            have Y786 := (h777_2 _ (by omega)).trans Y763
            have Y787 := (h777_2 _ (by omega)).trans Y764
            have Y788 := h777_1
            obtain ⟨j789, ej790, hc791⟩ := RSX_1 h777_0 (by decide)
            have hp792 : (gAF (KF 0 b n) (VF b n) (dt 79 10)) i = (hA3 (KF 0 b n) (VF b n) 5) j789 := hp768.trans ((show (hA0 (KF 0 b n) (VF b n) 5 ((VF b n) (i + 1))) j765 = gB ((gA (KF 0 b n) (VF b n) 3) j765) (hA3 (KF 0 b n) (VF b n) 5) by first | exact hA2_p (by decide) | (rw [hA1_n (by decide)]; exact hA2_p (by decide)) | (rw [hA0_n (by decide), hA1_n (by decide)]; exact hA2_p (by decide))).trans (by rw [ej790]; rfl))
            have hi793 : j789 ≤ t := by have z := gA_M (K := (KF 0 b n)) (V := (VF b n)) (m := 3) (i := j765) hz; rw [ej790] at z; have y := z rfl; simp only at y; omega
            have cr794 := CUR_R hc791 (.inl rfl)
            have cb795 := CUR_b hc791
            have cv796 := CUR_v hc791
            have ck797 := KZ_lt (i := j789) hz
            have c1798 := (hc791).1
            have ci799 := hi793
            have ej800 : j789 = j765 + 1 := by have z_ := gA_at (K := (KF 0 b n)) (V := (VF b n)) (m := 3) (i := j765) (by rw [ej790]); rw [ej790] at z_; exact z_
            refine go_to (k := 6) (pc' := 208) (L' := [some (.inr (.inr (some 79))), some (.inl 5)]) (st' := [.inl 159, .inr (.inr (some 79))]) (w' := (SH, dt778)) (fun _ => rfl) ?_
            refine go_call (Q' := _) rfl rfl rfl rfl rfl (sp_X6_need0_g0 L xs sio (d + 1) dt778 hI779 b n t j789 (by first | exact hbb | (rw [show dt778 85 = dt 85 from funext (hF781 85 (by decide)), show dt778 79 12 = dt 79 12 by omega]; exact hbb)) (by omega) hz ht hc791 hi793 hn5 159 ⟨by omega, by omega⟩ (by first | trivial | omega)) ?_
            rintro _ _ ⟨dt802, rfl, hI803, hF804, h801⟩
            refine ⟨rfl, ?_⟩
            have hF805 : Fr [79, 82] dt dt802 := Fr_tr hF781 hF804 (by decide)
            rcases h801 with ⟨rfl, h801⟩ | ⟨rfl, h801⟩
            · skip
              obtain ⟨h801_0, h801_1, h801_2, h801_3, h801_4⟩ := h801
              have BL806 : ∀ j : Nat, (j : Int) < 5 * dt 79 10 → dt802 82 j = dt 82 j := fun j hj => (hF804 82 (by decide) j).trans (BL785 j hj)
              have Y807 := (hF804 82 (by decide) _).trans Y786
              have Y808 := (hF804 82 (by decide) _).trans Y787
              have Y809 := (hF804 82 (by decide) _).trans Y788
              have fl810 := RSX_0 h801_0 rfl
              have fe811 : (gAF (KF 0 b n) (VF b n) (dt 79 10)) i = (gK (KF 0 b n) (159 - 100)) j789 := hp792.trans ((show (hA3 (KF 0 b n) (VF b n) 5) j789 = gB ((gK (KF 0 b n) (159 - 100)) j789) gOk by first | exact gB_id.symm | ((repeat (first | rw [hA0_n (by decide)] | rw [hA1_n (by decide)] | rw [hA2_n (by decide)] | rw [hA3_n (by decide)])); exact gB_id.symm)).trans (gB_no fl810.1))
              refine go_ret (k := 1) (r := some (.inl 0)) (w1 := (SH, dt802)) (fun _ => rfl) ?_
              exact ⟨dt802, rfl, hI803, hF805, (Or.inl ⟨rfl, ⟨by first | exact RSX_f fe811 fl810 (by omega) (by omega) | exact RSX_no (k := 1) (j := j789) (hp792.trans (by show gAF _ _ _ _ = _; unfold gAF; rw [if_pos (by omega)])) (by decide) (by omega) (by show _ = ((TP b n j789 : Nat) : Int); omega) | exact RSX_no (k := 3) (j := j789) (hp792.trans (by show gAF _ _ _ _ = _; unfold gAF; rw [if_neg (by omega), if_pos (by omega)])) (by decide) (by omega) (by show _ = ((TP b n j789 : Nat) : Int); omega) | exact RSX_no (k := 2) (j := j789) (hp792.trans (by exact (hA0_p rfl).trans (by unfold gOt; rw [if_pos (by omega)]; rfl))) (by decide) (by omega) (by show _ = ((TP b n j789 : Nat) : Int); omega), by first | trivial | omega, by first | trivial | omega, by first | trivial | omega⟩⟩)⟩
            · skip
              obtain ⟨h801_0, h801_1, h801_2, h801_3, h801_4, h801_5, h801_6, h801_7, h801_8, h801_9⟩ := h801
              have BL812 : ∀ j : Nat, (j : Int) < 5 * dt 79 10 → dt802 82 j = dt 82 j := fun j hj => (hF804 82 (by decide) j).trans (BL785 j hj)
              have Y813 := (hF804 82 (by decide) _).trans Y786
              have Y814 := (hF804 82 (by decide) _).trans Y787
              have Y815 := (hF804 82 (by decide) _).trans Y788
              obtain ⟨j816, ej817, hc818⟩ := RSX_1 h801_0 (by decide)
              have hp819 : (gAF (KF 0 b n) (VF b n) (dt 79 10)) i = gOk j816 := hp792.trans ((show (hA3 (KF 0 b n) (VF b n) 5) j789 = gB ((gK (KF 0 b n) (159 - 100)) j789) gOk by first | exact gB_id.symm | ((repeat (first | rw [hA0_n (by decide)] | rw [hA1_n (by decide)] | rw [hA2_n (by decide)] | rw [hA3_n (by decide)])); exact gB_id.symm)).trans (by rw [ej817]; rfl))
              have hi820 : j816 ≤ t := by have z := (fun (h : KZ (KF 0 b n) t) => gK_M (K := (KF 0 b n)) (k := 159 - 100) (i := j789) h (by decide)) hz; rw [ej817] at z; have y := z rfl; simp only at y; omega
              have cr821 := CUR_R hc818 (.inl rfl)
              have cb822 := CUR_b hc818
              have cv823 := CUR_v hc818
              have ck824 := KZ_lt (i := j816) hz
              have c1825 := (hc818).1
              have ci826 := hi820
              refine go_ret (k := 1) (r := some (.inl 1)) (w1 := (SH, dt802)) (fun _ => rfl) ?_
              exact ⟨dt802, rfl, hI803, hF805, (Or.inr ⟨rfl, ⟨by exact RSX_ok hp819 hc818, by first | trivial | omega, by unfold ARF ATT ABB; exact ⟨by rw [Y813]; omega, (by first | exact Y814.trans (congrArg (VF b n) (by omega)) | (rw [Y814]; congr 1; omega)), fun z_ => by first | (exfalso; omega) | (rw [if_pos (by omega)]; exact (by first | exact hI.trans (congrArg (VF b n) (by omega)) | (rw [hI]; congr 1; omega))) | (rw [if_neg (by omega)]; exact (by first | exact hI.trans (congrArg (VF b n) (by omega)) | (rw [hI]; congr 1; omega))), fun z_ => by first | (exfalso; omega) | (rw [if_pos (by omega)]; exact (by first | exact Y815.trans (congrArg (VF b n) (by omega)) | (rw [Y815]; congr 1; omega))) | (rw [if_neg (by omega), if_pos (by omega)]; exact (by first | exact Y815.trans (congrArg (VF b n) (by omega)) | (rw [Y815]; congr 1; omega))) | (rw [if_neg (by omega), if_neg (by omega)]; exact (by first | exact Y815.trans (congrArg (VF b n) (by omega)) | (rw [Y815]; congr 1; omega))), fun z_ => by first | (exfalso; omega) | exact (by first | exact Y815.trans (congrArg (VF b n) (by omega)) | (rw [Y815]; congr 1; omega)), fun z_ => by first | (exfalso; omega) | exact (by first | exact hI.trans (congrArg (VF b n) (by omega)) | (rw [hI]; congr 1; omega))⟩, by exact BL812, by first | trivial | omega, by exact (InvC_get (by assumption) 79 15 rfl rfl).2, by first | trivial | omega, by first | trivial | omega, by first | trivial | omega, by first | trivial | omega, by first | trivial | omega, by first | trivial | omega⟩⟩)⟩
      · rw [hc7]
        refine go_to (k := 1) (pc' := 44) (L' := [some (.inr (.inr (some 79))), some (.inl 6)]) (st' := [.inr (.inr (some 79))]) (w' := (SH, dt)) (fun _ => rfl) ?_
        refine go_call (Q' := _) rfl rfl rfl rfl rfl (sp_X6_next0_p0 L xs sio (d + 2) dt hI   (by first | trivial | omega) (by first | trivial | omega)) ?_
        rintro _ _ ⟨dt828, rfl, hI829, hF830, h827⟩
        refine ⟨rfl, ?_⟩
        have hF831 : Fr [79, 82] dt dt828 := Fr_tr hF hF830 (by decide)
        rcases h827 with ⟨rfl, h827⟩
        obtain ⟨h827_0, h827_1, h827_2, h827_3, h827_4, h827_5, h827_6, h827_7, h827_8⟩ := h827
        have BL832 : ∀ j : Nat, (j : Int) < 5 * dt 79 10 → dt828 82 j = dt 82 j := fun j hj => (hF830 82 (by decide) j).trans ((fun _ _ => rfl) j hj)
        have hq833 := h827_0
        rw [hbb, show (dt 79 12).toNat = n by omega] at hq833
        have hc834 : CUR 0 b n dt828 (i + 1) := CUR_n hc hq833
        have hi835 : i + 1 ≤ t := by omega
        have hp836 : (gAF (KF 0 b n) (VF b n) (dt 79 10)) i = (gAct (KF 0 b n) (VF b n) 6) (i + 1) := (rfl : (gAF (KF 0 b n) (VF b n) (dt 79 10)) i = (gAF (KF 0 b n) (VF b n) (dt 79 10)) i).trans (by show gAF _ _ _ _ = _; unfold gAF; rw [if_neg (by omega), if_neg (by omega), show (KF 0 b n) i - 1000 = 6 by omega])
        have cr837 := CUR_R hc834 (.inl rfl)
        have cb838 := CUR_b hc834
        have cv839 := CUR_v hc834
        have ck840 := KZ_lt (i := (i + 1)) hz
        have c1841 := (hc834).1
        have ci842 := hi835
        have r843 : 0 ≤ dt828 79 10 ∧ dt828 79 10 ≤ 24 := InvC_get hI829 79 10 rfl rfl
        refine go_to (k := 7) (pc' := 58) (L' := [some (.inr (.inr (some 79))), some (.inl 6)]) (st' := [.inl 6, .inl (5 * (dt828 79 10)), .inr (.inr (some 82))]) (w' := (SH, dt828)) (fun _ => rfl) ?_
        have hI844 : InvC (u2 dt828 82 ((5 * (dt828 79 10)).toNat) 6) := InvC_u2 hI829 (lo := -2147483648) (hi := 2147483647) rfl rfl rfl (by omega) (by omega)
        have hF845 : Fr [79, 82] dt (u2 dt828 82 ((5 * (dt828 79 10)).toNat) 6) := Fr_u2 hF831 (by decide)
        have w846 : (u2 dt828 82 ((5 * (dt828 79 10)).toNat) 6) 79 2 = dt828 79 2 := rfl
        have w847 : (u2 dt828 82 ((5 * (dt828 79 10)).toNat) 6) 79 9 = dt828 79 9 := rfl
        have w848 : (u2 dt828 82 ((5 * (dt828 79 10)).toNat) 6) 79 10 = dt828 79 10 := rfl
        have w849 : (u2 dt828 82 ((5 * (dt828 79 10)).toNat) 6) 79 11 = dt828 79 11 := rfl
        have w850 : (u2 dt828 82 ((5 * (dt828 79 10)).toNat) 6) 79 12 = dt828 79 12 := rfl
        have w851 : (u2 dt828 82 ((5 * (dt828 79 10)).toNat) 6) 79 13 = dt828 79 13 := rfl
        have w852 : (u2 dt828 82 ((5 * (dt828 79 10)).toNat) 6) 79 14 = dt828 79 14 := rfl
        have w853 : (u2 dt828 82 ((5 * (dt828 79 10)).toNat) 6) 79 15 = dt828 79 15 := rfl
        have w854 : (u2 dt828 82 ((5 * (dt828 79 10)).toNat) 6) 79 16 = dt828 79 16 := rfl
        have w855 : (u2 dt828 82 ((5 * (dt828 79 10)).toNat) 6) 79 17 = dt828 79 17 := rfl
        have w856 : (u2 dt828 82 ((5 * (dt828 79 10)).toNat) 6) 79 18 = dt828 79 18 := rfl
        have w857 : (u2 dt828 82 ((5 * (dt828 79 10)).toNat) 6) 79 20 = dt828 79 20 := rfl
        have BL858 : ∀ j : Nat, (j : Int) < 5 * dt 79 10 → (u2 dt828 82 ((5 * (dt828 79 10)).toNat) 6) 82 j = dt 82 j := fun j hj => (u2_ne (by omega)).trans (BL832 j hj)
        have Y859 : (u2 dt828 82 ((5 * (dt828 79 10)).toNat) 6) 82 (5 * (dt 79 10)).toNat = 6 := by rw [show (5 * (dt 79 10)).toNat = (5 * (dt828 79 10)).toNat by omega]; exact u2_eq
        have hc860 : CUR 0 b n (u2 dt828 82 ((5 * (dt828 79 10)).toNat) 6) (i + 1) := CUR_sm hc834 rfl rfl rfl rfl
        refine go_smp (L' := [some (.inr (.inr (some 79))), some (.inl 6)]) (st' := []) (w' := (SH, (u2 dt828 82 ((5 * (dt828 79 10)).toNat) 6))) rfl rfl (s_iast (n := 120) rfl ⟨by omega, by omega⟩ ⟨by omega, by omega⟩) ?_
        refine go_to (k := 6) (pc' := 72) (L' := [some (.inr (.inr (some 79))), some (.inl 6)]) (st' := [.inl 3, .inl 1, .inr (.inr (some 79))]) (w' := (SH, (u2 dt828 82 ((5 * (dt828 79 10)).toNat) 6))) (fun _ => rfl) ?_
        refine go_call (Q' := _) rfl rfl rfl rfl rfl (sp_X6_argument_g0 L xs sio (d + 0) (u2 dt828 82 ((5 * (dt828 79 10)).toNat) 6) hI844 b n t (i + 1) (by first | exact hbb | (rw [show (u2 dt828 82 ((5 * (dt828 79 10)).toNat) 6) 85 = dt 85 from funext (hF845 85 (by decide)), show (u2 dt828 82 ((5 * (dt828 79 10)).toNat) 6) 79 12 = dt 79 12 by omega]; exact hbb)) (by omega) hz ht hc860 hi835 hn5 1 ⟨by omega, by omega⟩ 3 ⟨by omega, by omega⟩ (by first | trivial | omega) (by first | trivial | omega)) ?_
        rintro _ _ ⟨dt862, rfl, hI863, hF864, h861⟩
        refine ⟨rfl, ?_⟩
        have hF865 : Fr [79, 82] dt dt862 := Fr_tr hF845 hF864 (by decide)
        rcases h861 with ⟨rfl, h861⟩ | ⟨rfl, h861⟩
        · skip
          obtain ⟨h861_0, h861_1, h861_2, h861_3, h861_4⟩ := h861
          have fl866 := RSX_0 h861_0 rfl
          have fe867 : (gAF (KF 0 b n) (VF b n) (dt 79 10)) i = (gA (KF 0 b n) (VF b n) 3) (i + 1) := hp836.trans ((show (gAct (KF 0 b n) (VF b n) 6) (i + 1) = gB ((gA (KF 0 b n) (VF b n) 3) (i + 1)) (hA0 (KF 0 b n) (VF b n) 6 ((VF b n) (i + 1))) by exact hAc_n (by decide)).trans (gB_no fl866.1))
          refine go_ret (k := 3) (r := some (.inl 0)) (w1 := (SH, dt862)) (fun _ => rfl) ?_
          exact ⟨dt862, rfl, hI863, hF865, (Or.inl ⟨rfl, ⟨by first | exact RSX_f fe867 fl866 (by omega) (by omega) | exact RSX_no (k := 1) (j := (i + 1)) (hp836.trans (by show gAF _ _ _ _ = _; unfold gAF; rw [if_pos (by omega)])) (by decide) (by omega) (by show _ = ((TP b n (i + 1) : Nat) : Int); omega) | exact RSX_no (k := 3) (j := (i + 1)) (hp836.trans (by show gAF _ _ _ _ = _; unfold gAF; rw [if_neg (by omega), if_pos (by omega)])) (by decide) (by omega) (by show _ = ((TP b n (i + 1) : Nat) : Int); omega) | exact RSX_no (k := 2) (j := (i + 1)) (hp836.trans (by exact (hA0_p rfl).trans (by unfold gOt; rw [if_pos (by omega)]; rfl))) (by decide) (by omega) (by show _ = ((TP b n (i + 1) : Nat) : Int); omega), by first | trivial | omega, by first | trivial | omega, by first | trivial | omega⟩⟩)⟩
        · skip
          obtain ⟨h861_0, h861_1, h861_2, h861_3, h861_4, h861_5, h861_6, h861_7, h861_8, h861_9, h861_10, h861_11⟩ := h861
          have ee868 : (u2 dt828 82 ((5 * (dt828 79 10)).toNat) 6) 79 10 = dt 79 10 := by omega
          rw [ee868] at h861_1 h861_2
          have BL869 : ∀ j : Nat, (j : Int) < 5 * dt 79 10 → dt862 82 j = dt 82 j := fun j hj => (h861_2 j (by omega)).trans (BL858 j hj)
          have Y870 := (h861_2 _ (by omega)).trans Y859
          have Y871 := h861_1
          obtain ⟨j872, ej873, hc874⟩ := RSX_1 h861_0 (by decide)
          have hp875 : (gAF (KF 0 b n) (VF b n) (dt 79 10)) i = (hA0 (KF 0 b n) (VF b n) 6 ((VF b n) (i + 1))) j872 := hp836.trans ((show (gAct (KF 0 b n) (VF b n) 6) (i + 1) = gB ((gA (KF 0 b n) (VF b n) 3) (i + 1)) (hA0 (KF 0 b n) (VF b n) 6 ((VF b n) (i + 1))) by exact hAc_n (by decide)).trans (by rw [ej873]; rfl))
          have hi876 : j872 ≤ t := by have z := gA_M (K := (KF 0 b n)) (V := (VF b n)) (m := 3) (i := (i + 1)) hz; rw [ej873] at z; have y := z rfl; simp only at y; omega
          have cr877 := CUR_R hc874 (.inl rfl)
          have cb878 := CUR_b hc874
          have cv879 := CUR_v hc874
          have ck880 := KZ_lt (i := j872) hz
          have c1881 := (hc874).1
          have ci882 := hi876
          have ej883 : j872 = (i + 1) + 1 := by have z_ := gA_at (K := (KF 0 b n)) (V := (VF b n)) (m := 3) (i := (i + 1)) (by rw [ej873]); rw [ej873] at z_; exact z_
          refine go_to (k := 31) (pc' := 196) (L' := [some (.inr (.inr (some 79))), some (.inl 6)]) (st' := [.inl 1, .inl 3, .inr (.inr (some 79))]) (w' := (SH, dt862)) (fun _ => rfl) ?_
          refine go_call (Q' := _) rfl rfl rfl rfl rfl (sp_X6_argument_g0 L xs sio (d + 0) dt862 hI863 b n t j872 (by first | exact hbb | (rw [show dt862 85 = dt 85 from funext (hF865 85 (by decide)), show dt862 79 12 = dt 79 12 by omega]; exact hbb)) (by omega) hz ht hc874 hi876 hn5 3 ⟨by omega, by omega⟩ 1 ⟨by omega, by omega⟩ (by first | trivial | omega) (by first | trivial | omega)) ?_
          rintro _ _ ⟨dt885, rfl, hI886, hF887, h884⟩
          refine ⟨rfl, ?_⟩
          have hF888 : Fr [79, 82] dt dt885 := Fr_tr hF865 hF887 (by decide)
          rcases h884 with ⟨rfl, h884⟩ | ⟨rfl, h884⟩
          · skip
            obtain ⟨h884_0, h884_1, h884_2, h884_3, h884_4⟩ := h884
            have fl889 := RSX_0 h884_0 rfl
            have fe890 : (gAF (KF 0 b n) (VF b n) (dt 79 10)) i = (gA (KF 0 b n) (VF b n) 1) j872 := hp875.trans ((show (hA0 (KF 0 b n) (VF b n) 6 ((VF b n) (i + 1))) j872 = gB ((gA (KF 0 b n) (VF b n) 1) j872) (gK (KF 0 b n) 59) by (repeat (first | rw [hA0_n (by decide)] | rw [hA1_n (by decide)] | rw [hA2_n (by decide)] | rw [hA3_n (by decide)])); exact hA3_p rfl).trans (gB_no fl889.1))
            refine go_ret (k := 3) (r := some (.inl 0)) (w1 := (SH, dt885)) (fun _ => rfl) ?_
            exact ⟨dt885, rfl, hI886, hF888, (Or.inl ⟨rfl, ⟨by first | exact RSX_f fe890 fl889 (by omega) (by omega) | exact RSX_no (k := 1) (j := j872) (hp875.trans (by show gAF _ _ _ _ = _; unfold gAF; rw [if_pos (by omega)])) (by decide) (by omega) (by show _ = ((TP b n j872 : Nat) : Int); omega) | exact RSX_no (k := 3) (j := j872) (hp875.trans (by show gAF _ _ _ _ = _; unfold gAF; rw [if_neg (by omega), if_pos (by omega)])) (by decide) (by omega) (by show _ = ((TP b n j872 : Nat) : Int); omega) | exact RSX_no (k := 2) (j := j872) (hp875.trans (by exact (hA0_p rfl).trans (by unfold gOt; rw [if_pos (by omega)]; rfl))) (by decide) (by omega) (by show _ = ((TP b n j872 : Nat) : Int); omega), by first | trivial | omega, by first | trivial | omega, by first | trivial | omega⟩⟩)⟩
          · skip
            obtain ⟨h884_0, h884_1, h884_2, h884_3, h884_4, h884_5, h884_6, h884_7, h884_8, h884_9, h884_10, h884_11⟩ := h884
            have ee891 : dt862 79 10 = dt 79 10 := by omega
            rw [ee891] at h884_1 h884_2
            have BL892 : ∀ j : Nat, (j : Int) < 5 * dt 79 10 → dt885 82 j = dt 82 j := fun j hj => (h884_2 j (by omega)).trans (BL869 j hj)
            have Y893 := (h884_2 _ (by omega)).trans Y870
            have Y894 := (h884_2 _ (by omega)).trans Y871
            have Y895 := h884_1
            obtain ⟨j896, ej897, hc898⟩ := RSX_1 h884_0 (by decide)
            have hp899 : (gAF (KF 0 b n) (VF b n) (dt 79 10)) i = (gK (KF 0 b n) 59) j896 := hp875.trans ((show (hA0 (KF 0 b n) (VF b n) 6 ((VF b n) (i + 1))) j872 = gB ((gA (KF 0 b n) (VF b n) 1) j872) (gK (KF 0 b n) 59) by (repeat (first | rw [hA0_n (by decide)] | rw [hA1_n (by decide)] | rw [hA2_n (by decide)] | rw [hA3_n (by decide)])); exact hA3_p rfl).trans (by rw [ej897]; rfl))
            have hi900 : j896 ≤ t := by have z := gA_M (K := (KF 0 b n)) (V := (VF b n)) (m := 1) (i := j872) hz; rw [ej897] at z; have y := z rfl; simp only at y; omega
            have cr901 := CUR_R hc898 (.inl rfl)
            have cb902 := CUR_b hc898
            have cv903 := CUR_v hc898
            have ck904 := KZ_lt (i := j896) hz
            have c1905 := (hc898).1
            have ci906 := hi900
            have ej907 : j896 = j872 + 1 := by have z_ := gA_at (K := (KF 0 b n)) (V := (VF b n)) (m := 1) (i := j872) (by rw [ej897]); rw [ej897] at z_; exact z_
            refine go_to (k := 3) (pc' := 208) (L' := [some (.inr (.inr (some 79))), some (.inl 6)]) (st' := [.inl 159, .inr (.inr (some 79))]) (w' := (SH, dt885)) (fun _ => rfl) ?_
            refine go_call (Q' := _) rfl rfl rfl rfl rfl (sp_X6_need0_g0 L xs sio (d + 1) dt885 hI886 b n t j896 (by first | exact hbb | (rw [show dt885 85 = dt 85 from funext (hF888 85 (by decide)), show dt885 79 12 = dt 79 12 by omega]; exact hbb)) (by omega) hz ht hc898 hi900 hn5 159 ⟨by omega, by omega⟩ (by first | trivial | omega)) ?_
            rintro _ _ ⟨dt909, rfl, hI910, hF911, h908⟩
            refine ⟨rfl, ?_⟩
            have hF912 : Fr [79, 82] dt dt909 := Fr_tr hF888 hF911 (by decide)
            rcases h908 with ⟨rfl, h908⟩ | ⟨rfl, h908⟩
            · skip
              obtain ⟨h908_0, h908_1, h908_2, h908_3, h908_4⟩ := h908
              have BL913 : ∀ j : Nat, (j : Int) < 5 * dt 79 10 → dt909 82 j = dt 82 j := fun j hj => (hF911 82 (by decide) j).trans (BL892 j hj)
              have Y914 := (hF911 82 (by decide) _).trans Y893
              have Y915 := (hF911 82 (by decide) _).trans Y894
              have Y916 := (hF911 82 (by decide) _).trans Y895
              have fl917 := RSX_0 h908_0 rfl
              have fe918 : (gAF (KF 0 b n) (VF b n) (dt 79 10)) i = (gK (KF 0 b n) (159 - 100)) j896 := hp899.trans ((show (gK (KF 0 b n) 59) j896 = gB ((gK (KF 0 b n) (159 - 100)) j896) gOk by first | exact gB_id.symm | ((repeat (first | rw [hA0_n (by decide)] | rw [hA1_n (by decide)] | rw [hA2_n (by decide)] | rw [hA3_n (by decide)])); exact gB_id.symm)).trans (gB_no fl917.1))
              refine go_ret (k := 1) (r := some (.inl 0)) (w1 := (SH, dt909)) (fun _ => rfl) ?_
              exact ⟨dt909, rfl, hI910, hF912, (Or.inl ⟨rfl, ⟨by first | exact RSX_f fe918 fl917 (by omega) (by omega) | exact RSX_no (k := 1) (j := j896) (hp899.trans (by show gAF _ _ _ _ = _; unfold gAF; rw [if_pos (by omega)])) (by decide) (by omega) (by show _ = ((TP b n j896 : Nat) : Int); omega) | exact RSX_no (k := 3) (j := j896) (hp899.trans (by show gAF _ _ _ _ = _; unfold gAF; rw [if_neg (by omega), if_pos (by omega)])) (by decide) (by omega) (by show _ = ((TP b n j896 : Nat) : Int); omega) | exact RSX_no (k := 2) (j := j896) (hp899.trans (by exact (hA0_p rfl).trans (by unfold gOt; rw [if_pos (by omega)]; rfl))) (by decide) (by omega) (by show _ = ((TP b n j896 : Nat) : Int); omega), by first | trivial | omega, by first | trivial | omega, by first | trivial | omega⟩⟩)⟩
            · skip
              obtain ⟨h908_0, h908_1, h908_2, h908_3, h908_4, h908_5, h908_6, h908_7, h908_8, h908_9⟩ := h908
              have BL919 : ∀ j : Nat, (j : Int) < 5 * dt 79 10 → dt909 82 j = dt 82 j := fun j hj => (hF911 82 (by decide) j).trans (BL892 j hj)
              have Y920 := (hF911 82 (by decide) _).trans Y893
              have Y921 := (hF911 82 (by decide) _).trans Y894
              have Y922 := (hF911 82 (by decide) _).trans Y895
              obtain ⟨j923, ej924, hc925⟩ := RSX_1 h908_0 (by decide)
              have hp926 : (gAF (KF 0 b n) (VF b n) (dt 79 10)) i = gOk j923 := hp899.trans ((show (gK (KF 0 b n) 59) j896 = gB ((gK (KF 0 b n) (159 - 100)) j896) gOk by first | exact gB_id.symm | ((repeat (first | rw [hA0_n (by decide)] | rw [hA1_n (by decide)] | rw [hA2_n (by decide)] | rw [hA3_n (by decide)])); exact gB_id.symm)).trans (by rw [ej924]; rfl))
              have hi927 : j923 ≤ t := by have z := (fun (h : KZ (KF 0 b n) t) => gK_M (K := (KF 0 b n)) (k := 159 - 100) (i := j896) h (by decide)) hz; rw [ej924] at z; have y := z rfl; simp only at y; omega
              have cr928 := CUR_R hc925 (.inl rfl)
              have cb929 := CUR_b hc925
              have cv930 := CUR_v hc925
              have ck931 := KZ_lt (i := j923) hz
              have c1932 := (hc925).1
              have ci933 := hi927
              refine go_ret (k := 1) (r := some (.inl 1)) (w1 := (SH, dt909)) (fun _ => rfl) ?_
              exact ⟨dt909, rfl, hI910, hF912, (Or.inr ⟨rfl, ⟨by exact RSX_ok hp926 hc925, by first | trivial | omega, by unfold ARF ATT ABB; exact ⟨by rw [Y920]; omega, (by first | exact Y921.trans (congrArg (VF b n) (by omega)) | (rw [Y921]; congr 1; omega)), fun z_ => by first | (exfalso; omega) | (rw [if_pos (by omega)]; exact (by first | exact hI.trans (congrArg (VF b n) (by omega)) | (rw [hI]; congr 1; omega))) | (rw [if_neg (by omega)]; exact (by first | exact hI.trans (congrArg (VF b n) (by omega)) | (rw [hI]; congr 1; omega))), fun z_ => by first | (exfalso; omega) | (rw [if_pos (by omega)]; exact (by first | exact Y922.trans (congrArg (VF b n) (by omega)) | (rw [Y922]; congr 1; omega))) | (rw [if_neg (by omega), if_pos (by omega)]; exact (by first | exact Y922.trans (congrArg (VF b n) (by omega)) | (rw [Y922]; congr 1; omega))) | (rw [if_neg (by omega), if_neg (by omega)]; exact (by first | exact Y922.trans (congrArg (VF b n) (by omega)) | (rw [Y922]; congr 1; omega))), fun z_ => by first | (exfalso; omega) | exact (by first | exact Y922.trans (congrArg (VF b n) (by omega)) | (rw [Y922]; congr 1; omega)), fun z_ => by first | (exfalso; omega) | exact (by first | exact hI.trans (congrArg (VF b n) (by omega)) | (rw [hI]; congr 1; omega))⟩, by exact BL919, by first | trivial | omega, by exact (InvC_get (by assumption) 79 15 rfl rfl).2, by first | trivial | omega, by first | trivial | omega, by first | trivial | omega, by first | trivial | omega, by first | trivial | omega, by first | trivial | omega⟩⟩)⟩
      · rw [hc7]
        refine go_to (k := 1) (pc' := 44) (L' := [some (.inr (.inr (some 79))), some (.inl 7)]) (st' := [.inr (.inr (some 79))]) (w' := (SH, dt)) (fun _ => rfl) ?_
        refine go_call (Q' := _) rfl rfl rfl rfl rfl (sp_X6_next0_p0 L xs sio (d + 2) dt hI   (by first | trivial | omega) (by first | trivial | omega)) ?_
        rintro _ _ ⟨dt935, rfl, hI936, hF937, h934⟩
        refine ⟨rfl, ?_⟩
        have hF938 : Fr [79, 82] dt dt935 := Fr_tr hF hF937 (by decide)
        rcases h934 with ⟨rfl, h934⟩
        obtain ⟨h934_0, h934_1, h934_2, h934_3, h934_4, h934_5, h934_6, h934_7, h934_8⟩ := h934
        have BL939 : ∀ j : Nat, (j : Int) < 5 * dt 79 10 → dt935 82 j = dt 82 j := fun j hj => (hF937 82 (by decide) j).trans ((fun _ _ => rfl) j hj)
        have hq940 := h934_0
        rw [hbb, show (dt 79 12).toNat = n by omega] at hq940
        have hc941 : CUR 0 b n dt935 (i + 1) := CUR_n hc hq940
        have hi942 : i + 1 ≤ t := by omega
        have hp943 : (gAF (KF 0 b n) (VF b n) (dt 79 10)) i = (gAct (KF 0 b n) (VF b n) 7) (i + 1) := (rfl : (gAF (KF 0 b n) (VF b n) (dt 79 10)) i = (gAF (KF 0 b n) (VF b n) (dt 79 10)) i).trans (by show gAF _ _ _ _ = _; unfold gAF; rw [if_neg (by omega), if_neg (by omega), show (KF 0 b n) i - 1000 = 7 by omega])
        have cr944 := CUR_R hc941 (.inl rfl)
        have cb945 := CUR_b hc941
        have cv946 := CUR_v hc941
        have ck947 := KZ_lt (i := (i + 1)) hz
        have c1948 := (hc941).1
        have ci949 := hi942
        have r950 : 0 ≤ dt935 79 10 ∧ dt935 79 10 ≤ 24 := InvC_get hI936 79 10 rfl rfl
        refine go_to (k := 7) (pc' := 58) (L' := [some (.inr (.inr (some 79))), some (.inl 7)]) (st' := [.inl 7, .inl (5 * (dt935 79 10)), .inr (.inr (some 82))]) (w' := (SH, dt935)) (fun _ => rfl) ?_
        have hI951 : InvC (u2 dt935 82 ((5 * (dt935 79 10)).toNat) 7) := InvC_u2 hI936 (lo := -2147483648) (hi := 2147483647) rfl rfl rfl (by omega) (by omega)
        have hF952 : Fr [79, 82] dt (u2 dt935 82 ((5 * (dt935 79 10)).toNat) 7) := Fr_u2 hF938 (by decide)
        have w953 : (u2 dt935 82 ((5 * (dt935 79 10)).toNat) 7) 79 2 = dt935 79 2 := rfl
        have w954 : (u2 dt935 82 ((5 * (dt935 79 10)).toNat) 7) 79 9 = dt935 79 9 := rfl
        have w955 : (u2 dt935 82 ((5 * (dt935 79 10)).toNat) 7) 79 10 = dt935 79 10 := rfl
        have w956 : (u2 dt935 82 ((5 * (dt935 79 10)).toNat) 7) 79 11 = dt935 79 11 := rfl
        have w957 : (u2 dt935 82 ((5 * (dt935 79 10)).toNat) 7) 79 12 = dt935 79 12 := rfl
        have w958 : (u2 dt935 82 ((5 * (dt935 79 10)).toNat) 7) 79 13 = dt935 79 13 := rfl
        have w959 : (u2 dt935 82 ((5 * (dt935 79 10)).toNat) 7) 79 14 = dt935 79 14 := rfl
        have w960 : (u2 dt935 82 ((5 * (dt935 79 10)).toNat) 7) 79 15 = dt935 79 15 := rfl
        have w961 : (u2 dt935 82 ((5 * (dt935 79 10)).toNat) 7) 79 16 = dt935 79 16 := rfl
        have w962 : (u2 dt935 82 ((5 * (dt935 79 10)).toNat) 7) 79 17 = dt935 79 17 := rfl
        have w963 : (u2 dt935 82 ((5 * (dt935 79 10)).toNat) 7) 79 18 = dt935 79 18 := rfl
        have w964 : (u2 dt935 82 ((5 * (dt935 79 10)).toNat) 7) 79 20 = dt935 79 20 := rfl
        have BL965 : ∀ j : Nat, (j : Int) < 5 * dt 79 10 → (u2 dt935 82 ((5 * (dt935 79 10)).toNat) 7) 82 j = dt 82 j := fun j hj => (u2_ne (by omega)).trans (BL939 j hj)
        have Y966 : (u2 dt935 82 ((5 * (dt935 79 10)).toNat) 7) 82 (5 * (dt 79 10)).toNat = 7 := by rw [show (5 * (dt 79 10)).toNat = (5 * (dt935 79 10)).toNat by omega]; exact u2_eq
        have hc967 : CUR 0 b n (u2 dt935 82 ((5 * (dt935 79 10)).toNat) 7) (i + 1) := CUR_sm hc941 rfl rfl rfl rfl
        refine go_smp (L' := [some (.inr (.inr (some 79))), some (.inl 7)]) (st' := []) (w' := (SH, (u2 dt935 82 ((5 * (dt935 79 10)).toNat) 7))) rfl rfl (s_iast (n := 120) rfl ⟨by omega, by omega⟩ ⟨by omega, by omega⟩) ?_
        refine go_to (k := 6) (pc' := 72) (L' := [some (.inr (.inr (some 79))), some (.inl 7)]) (st' := [.inl 3, .inl 1, .inr (.inr (some 79))]) (w' := (SH, (u2 dt935 82 ((5 * (dt935 79 10)).toNat) 7))) (fun _ => rfl) ?_
        refine go_call (Q' := _) rfl rfl rfl rfl rfl (sp_X6_argument_g0 L xs sio (d + 0) (u2 dt935 82 ((5 * (dt935 79 10)).toNat) 7) hI951 b n t (i + 1) (by first | exact hbb | (rw [show (u2 dt935 82 ((5 * (dt935 79 10)).toNat) 7) 85 = dt 85 from funext (hF952 85 (by decide)), show (u2 dt935 82 ((5 * (dt935 79 10)).toNat) 7) 79 12 = dt 79 12 by omega]; exact hbb)) (by omega) hz ht hc967 hi942 hn5 1 ⟨by omega, by omega⟩ 3 ⟨by omega, by omega⟩ (by first | trivial | omega) (by first | trivial | omega)) ?_
        rintro _ _ ⟨dt969, rfl, hI970, hF971, h968⟩
        refine ⟨rfl, ?_⟩
        have hF972 : Fr [79, 82] dt dt969 := Fr_tr hF952 hF971 (by decide)
        rcases h968 with ⟨rfl, h968⟩ | ⟨rfl, h968⟩
        · skip
          obtain ⟨h968_0, h968_1, h968_2, h968_3, h968_4⟩ := h968
          have fl973 := RSX_0 h968_0 rfl
          have fe974 : (gAF (KF 0 b n) (VF b n) (dt 79 10)) i = (gA (KF 0 b n) (VF b n) 3) (i + 1) := hp943.trans ((show (gAct (KF 0 b n) (VF b n) 7) (i + 1) = gB ((gA (KF 0 b n) (VF b n) 3) (i + 1)) (hA0 (KF 0 b n) (VF b n) 7 ((VF b n) (i + 1))) by exact hAc_n (by decide)).trans (gB_no fl973.1))
          refine go_ret (k := 3) (r := some (.inl 0)) (w1 := (SH, dt969)) (fun _ => rfl) ?_
          exact ⟨dt969, rfl, hI970, hF972, (Or.inl ⟨rfl, ⟨by first | exact RSX_f fe974 fl973 (by omega) (by omega) | exact RSX_no (k := 1) (j := (i + 1)) (hp943.trans (by show gAF _ _ _ _ = _; unfold gAF; rw [if_pos (by omega)])) (by decide) (by omega) (by show _ = ((TP b n (i + 1) : Nat) : Int); omega) | exact RSX_no (k := 3) (j := (i + 1)) (hp943.trans (by show gAF _ _ _ _ = _; unfold gAF; rw [if_neg (by omega), if_pos (by omega)])) (by decide) (by omega) (by show _ = ((TP b n (i + 1) : Nat) : Int); omega) | exact RSX_no (k := 2) (j := (i + 1)) (hp943.trans (by exact (hA0_p rfl).trans (by unfold gOt; rw [if_pos (by omega)]; rfl))) (by decide) (by omega) (by show _ = ((TP b n (i + 1) : Nat) : Int); omega), by first | trivial | omega, by first | trivial | omega, by first | trivial | omega⟩⟩)⟩
        · skip
          obtain ⟨h968_0, h968_1, h968_2, h968_3, h968_4, h968_5, h968_6, h968_7, h968_8, h968_9, h968_10, h968_11⟩ := h968
          have ee975 : (u2 dt935 82 ((5 * (dt935 79 10)).toNat) 7) 79 10 = dt 79 10 := by omega
          rw [ee975] at h968_1 h968_2
          have BL976 : ∀ j : Nat, (j : Int) < 5 * dt 79 10 → dt969 82 j = dt 82 j := fun j hj => (h968_2 j (by omega)).trans (BL965 j hj)
          have Y977 := (h968_2 _ (by omega)).trans Y966
          have Y978 := h968_1
          obtain ⟨j979, ej980, hc981⟩ := RSX_1 h968_0 (by decide)
          have hp982 : (gAF (KF 0 b n) (VF b n) (dt 79 10)) i = (hA0 (KF 0 b n) (VF b n) 7 ((VF b n) (i + 1))) j979 := hp943.trans ((show (gAct (KF 0 b n) (VF b n) 7) (i + 1) = gB ((gA (KF 0 b n) (VF b n) 3) (i + 1)) (hA0 (KF 0 b n) (VF b n) 7 ((VF b n) (i + 1))) by exact hAc_n (by decide)).trans (by rw [ej980]; rfl))
          have hi983 : j979 ≤ t := by have z := gA_M (K := (KF 0 b n)) (V := (VF b n)) (m := 3) (i := (i + 1)) hz; rw [ej980] at z; have y := z rfl; simp only at y; omega
          have cr984 := CUR_R hc981 (.inl rfl)
          have cb985 := CUR_b hc981
          have cv986 := CUR_v hc981
          have ck987 := KZ_lt (i := j979) hz
          have c1988 := (hc981).1
          have ci989 := hi983
          have ej990 : j979 = (i + 1) + 1 := by have z_ := gA_at (K := (KF 0 b n)) (V := (VF b n)) (m := 3) (i := (i + 1)) (by rw [ej980]); rw [ej980] at z_; exact z_
          refine go_to (k := 30) (pc' := 208) (L' := [some (.inr (.inr (some 79))), some (.inl 7)]) (st' := [.inl 159, .inr (.inr (some 79))]) (w' := (SH, dt969)) (fun _ => rfl) ?_
          refine go_call (Q' := _) rfl rfl rfl rfl rfl (sp_X6_need0_g0 L xs sio (d + 1) dt969 hI970 b n t j979 (by first | exact hbb | (rw [show dt969 85 = dt 85 from funext (hF972 85 (by decide)), show dt969 79 12 = dt 79 12 by omega]; exact hbb)) (by omega) hz ht hc981 hi983 hn5 159 ⟨by omega, by omega⟩ (by first | trivial | omega)) ?_
          rintro _ _ ⟨dt992, rfl, hI993, hF994, h991⟩
          refine ⟨rfl, ?_⟩
          have hF995 : Fr [79, 82] dt dt992 := Fr_tr hF972 hF994 (by decide)
          rcases h991 with ⟨rfl, h991⟩ | ⟨rfl, h991⟩
          · skip
            obtain ⟨h991_0, h991_1, h991_2, h991_3, h991_4⟩ := h991
            have BL996 : ∀ j : Nat, (j : Int) < 5 * dt 79 10 → dt992 82 j = dt 82 j := fun j hj => (hF994 82 (by decide) j).trans (BL976 j hj)
            have Y997 := (hF994 82 (by decide) _).trans Y977
            have Y998 := (hF994 82 (by decide) _).trans Y978
            have fl999 := RSX_0 h991_0 rfl
            have fe1000 : (gAF (KF 0 b n) (VF b n) (dt 79 10)) i = (gK (KF 0 b n) (159 - 100)) j979 := hp982.trans ((show (hA0 (KF 0 b n) (VF b n) 7 ((VF b n) (i + 1))) j979 = gB ((gK (KF 0 b n) (159 - 100)) j979) gOk by first | exact gB_id.symm | ((repeat (first | rw [hA0_n (by decide)] | rw [hA1_n (by decide)] | rw [hA2_n (by decide)] | rw [hA3_n (by decide)])); exact gB_id.symm)).trans (gB_no fl999.1))
            refine go_ret (k := 1) (r := some (.inl 0)) (w1 := (SH, dt992)) (fun _ => rfl) ?_
            exact ⟨dt992, rfl, hI993, hF995, (Or.inl ⟨rfl, ⟨by first | exact RSX_f fe1000 fl999 (by omega) (by omega) | exact RSX_no (k := 1) (j := j979) (hp982.trans (by show gAF _ _ _ _ = _; unfold gAF; rw [if_pos (by omega)])) (by decide) (by omega) (by show _ = ((TP b n j979 : Nat) : Int); omega) | exact RSX_no (k := 3) (j := j979) (hp982.trans (by show gAF _ _ _ _ = _; unfold gAF; rw [if_neg (by omega), if_pos (by omega)])) (by decide) (by omega) (by show _ = ((TP b n j979 : Nat) : Int); omega) | exact RSX_no (k := 2) (j := j979) (hp982.trans (by exact (hA0_p rfl).trans (by unfold gOt; rw [if_pos (by omega)]; rfl))) (by decide) (by omega) (by show _ = ((TP b n j979 : Nat) : Int); omega), by first | trivial | omega, by first | trivial | omega, by first | trivial | omega⟩⟩)⟩
          · skip
            obtain ⟨h991_0, h991_1, h991_2, h991_3, h991_4, h991_5, h991_6, h991_7, h991_8, h991_9⟩ := h991
            have BL1001 : ∀ j : Nat, (j : Int) < 5 * dt 79 10 → dt992 82 j = dt 82 j := fun j hj => (hF994 82 (by decide) j).trans (BL976 j hj)
            have Y1002 := (hF994 82 (by decide) _).trans Y977
            have Y1003 := (hF994 82 (by decide) _).trans Y978
            obtain ⟨j1004, ej1005, hc1006⟩ := RSX_1 h991_0 (by decide)
            have hp1007 : (gAF (KF 0 b n) (VF b n) (dt 79 10)) i = gOk j1004 := hp982.trans ((show (hA0 (KF 0 b n) (VF b n) 7 ((VF b n) (i + 1))) j979 = gB ((gK (KF 0 b n) (159 - 100)) j979) gOk by first | exact gB_id.symm | ((repeat (first | rw [hA0_n (by decide)] | rw [hA1_n (by decide)] | rw [hA2_n (by decide)] | rw [hA3_n (by decide)])); exact gB_id.symm)).trans (by rw [ej1005]; rfl))
            have hi1008 : j1004 ≤ t := by have z := (fun (h : KZ (KF 0 b n) t) => gK_M (K := (KF 0 b n)) (k := 159 - 100) (i := j979) h (by decide)) hz; rw [ej1005] at z; have y := z rfl; simp only at y; omega
            have cr1009 := CUR_R hc1006 (.inl rfl)
            have cb1010 := CUR_b hc1006
            have cv1011 := CUR_v hc1006
            have ck1012 := KZ_lt (i := j1004) hz
            have c11013 := (hc1006).1
            have ci1014 := hi1008
            refine go_ret (k := 1) (r := some (.inl 1)) (w1 := (SH, dt992)) (fun _ => rfl) ?_
            exact ⟨dt992, rfl, hI993, hF995, (Or.inr ⟨rfl, ⟨by exact RSX_ok hp1007 hc1006, by first | trivial | omega, by unfold ARF ATT ABB; exact ⟨by rw [Y1002]; omega, (by first | exact Y1003.trans (congrArg (VF b n) (by omega)) | (rw [Y1003]; congr 1; omega)), fun z_ => by first | (exfalso; omega) | (rw [if_pos (by omega)]; exact (by first | exact hI.trans (congrArg (VF b n) (by omega)) | (rw [hI]; congr 1; omega))) | (rw [if_neg (by omega)]; exact (by first | exact hI.trans (congrArg (VF b n) (by omega)) | (rw [hI]; congr 1; omega))), fun z_ => by first | (exfalso; omega) | (rw [if_pos (by omega)]; exact (by first | exact hI.trans (congrArg (VF b n) (by omega)) | (rw [hI]; congr 1; omega))) | (rw [if_neg (by omega), if_pos (by omega)]; exact (by first | exact hI.trans (congrArg (VF b n) (by omega)) | (rw [hI]; congr 1; omega))) | (rw [if_neg (by omega), if_neg (by omega)]; exact (by first | exact hI.trans (congrArg (VF b n) (by omega)) | (rw [hI]; congr 1; omega))), fun z_ => by first | (exfalso; omega) | exact (by first | exact hI.trans (congrArg (VF b n) (by omega)) | (rw [hI]; congr 1; omega)), fun z_ => by first | (exfalso; omega) | exact (by first | exact hI.trans (congrArg (VF b n) (by omega)) | (rw [hI]; congr 1; omega))⟩, by exact BL1001, by first | trivial | omega, by exact (InvC_get (by assumption) 79 15 rfl rfl).2, by first | trivial | omega, by first | trivial | omega, by first | trivial | omega, by first | trivial | omega, by first | trivial | omega, by first | trivial | omega⟩⟩)⟩
      · rw [hc7]
        refine go_to (k := 1) (pc' := 44) (L' := [some (.inr (.inr (some 79))), some (.inl 8)]) (st' := [.inr (.inr (some 79))]) (w' := (SH, dt)) (fun _ => rfl) ?_
        refine go_call (Q' := _) rfl rfl rfl rfl rfl (sp_X6_next0_p0 L xs sio (d + 2) dt hI   (by first | trivial | omega) (by first | trivial | omega)) ?_
        rintro _ _ ⟨dt1016, rfl, hI1017, hF1018, h1015⟩
        refine ⟨rfl, ?_⟩
        have hF1019 : Fr [79, 82] dt dt1016 := Fr_tr hF hF1018 (by decide)
        rcases h1015 with ⟨rfl, h1015⟩
        obtain ⟨h1015_0, h1015_1, h1015_2, h1015_3, h1015_4, h1015_5, h1015_6, h1015_7, h1015_8⟩ := h1015
        have BL1020 : ∀ j : Nat, (j : Int) < 5 * dt 79 10 → dt1016 82 j = dt 82 j := fun j hj => (hF1018 82 (by decide) j).trans ((fun _ _ => rfl) j hj)
        have hq1021 := h1015_0
        rw [hbb, show (dt 79 12).toNat = n by omega] at hq1021
        have hc1022 : CUR 0 b n dt1016 (i + 1) := CUR_n hc hq1021
        have hi1023 : i + 1 ≤ t := by omega
        have hp1024 : (gAF (KF 0 b n) (VF b n) (dt 79 10)) i = (gAct (KF 0 b n) (VF b n) 8) (i + 1) := (rfl : (gAF (KF 0 b n) (VF b n) (dt 79 10)) i = (gAF (KF 0 b n) (VF b n) (dt 79 10)) i).trans (by show gAF _ _ _ _ = _; unfold gAF; rw [if_neg (by omega), if_neg (by omega), show (KF 0 b n) i - 1000 = 8 by omega])
        have cr1025 := CUR_R hc1022 (.inl rfl)
        have cb1026 := CUR_b hc1022
        have cv1027 := CUR_v hc1022
        have ck1028 := KZ_lt (i := (i + 1)) hz
        have c11029 := (hc1022).1
        have ci1030 := hi1023
        have r1031 : 0 ≤ dt1016 79 10 ∧ dt1016 79 10 ≤ 24 := InvC_get hI1017 79 10 rfl rfl
        refine go_to (k := 7) (pc' := 58) (L' := [some (.inr (.inr (some 79))), some (.inl 8)]) (st' := [.inl 8, .inl (5 * (dt1016 79 10)), .inr (.inr (some 82))]) (w' := (SH, dt1016)) (fun _ => rfl) ?_
        have hI1032 : InvC (u2 dt1016 82 ((5 * (dt1016 79 10)).toNat) 8) := InvC_u2 hI1017 (lo := -2147483648) (hi := 2147483647) rfl rfl rfl (by omega) (by omega)
        have hF1033 : Fr [79, 82] dt (u2 dt1016 82 ((5 * (dt1016 79 10)).toNat) 8) := Fr_u2 hF1019 (by decide)
        have w1034 : (u2 dt1016 82 ((5 * (dt1016 79 10)).toNat) 8) 79 2 = dt1016 79 2 := rfl
        have w1035 : (u2 dt1016 82 ((5 * (dt1016 79 10)).toNat) 8) 79 9 = dt1016 79 9 := rfl
        have w1036 : (u2 dt1016 82 ((5 * (dt1016 79 10)).toNat) 8) 79 10 = dt1016 79 10 := rfl
        have w1037 : (u2 dt1016 82 ((5 * (dt1016 79 10)).toNat) 8) 79 11 = dt1016 79 11 := rfl
        have w1038 : (u2 dt1016 82 ((5 * (dt1016 79 10)).toNat) 8) 79 12 = dt1016 79 12 := rfl
        have w1039 : (u2 dt1016 82 ((5 * (dt1016 79 10)).toNat) 8) 79 13 = dt1016 79 13 := rfl
        have w1040 : (u2 dt1016 82 ((5 * (dt1016 79 10)).toNat) 8) 79 14 = dt1016 79 14 := rfl
        have w1041 : (u2 dt1016 82 ((5 * (dt1016 79 10)).toNat) 8) 79 15 = dt1016 79 15 := rfl
        have w1042 : (u2 dt1016 82 ((5 * (dt1016 79 10)).toNat) 8) 79 16 = dt1016 79 16 := rfl
        have w1043 : (u2 dt1016 82 ((5 * (dt1016 79 10)).toNat) 8) 79 17 = dt1016 79 17 := rfl
        have w1044 : (u2 dt1016 82 ((5 * (dt1016 79 10)).toNat) 8) 79 18 = dt1016 79 18 := rfl
        have w1045 : (u2 dt1016 82 ((5 * (dt1016 79 10)).toNat) 8) 79 20 = dt1016 79 20 := rfl
        have BL1046 : ∀ j : Nat, (j : Int) < 5 * dt 79 10 → (u2 dt1016 82 ((5 * (dt1016 79 10)).toNat) 8) 82 j = dt 82 j := fun j hj => (u2_ne (by omega)).trans (BL1020 j hj)
        have Y1047 : (u2 dt1016 82 ((5 * (dt1016 79 10)).toNat) 8) 82 (5 * (dt 79 10)).toNat = 8 := by rw [show (5 * (dt 79 10)).toNat = (5 * (dt1016 79 10)).toNat by omega]; exact u2_eq
        have hc1048 : CUR 0 b n (u2 dt1016 82 ((5 * (dt1016 79 10)).toNat) 8) (i + 1) := CUR_sm hc1022 rfl rfl rfl rfl
        refine go_smp (L' := [some (.inr (.inr (some 79))), some (.inl 8)]) (st' := []) (w' := (SH, (u2 dt1016 82 ((5 * (dt1016 79 10)).toNat) 8))) rfl rfl (s_iast (n := 120) rfl ⟨by omega, by omega⟩ ⟨by omega, by omega⟩) ?_
        refine go_to (k := 7) (pc' := 72) (L' := [some (.inr (.inr (some 79))), some (.inl 8)]) (st' := [.inl 1, .inl 1, .inr (.inr (some 79))]) (w' := (SH, (u2 dt1016 82 ((5 * (dt1016 79 10)).toNat) 8))) (fun _ => rfl) ?_
        refine go_call (Q' := _) rfl rfl rfl rfl rfl (sp_X6_argument_g0 L xs sio (d + 0) (u2 dt1016 82 ((5 * (dt1016 79 10)).toNat) 8) hI1032 b n t (i + 1) (by first | exact hbb | (rw [show (u2 dt1016 82 ((5 * (dt1016 79 10)).toNat) 8) 85 = dt 85 from funext (hF1033 85 (by decide)), show (u2 dt1016 82 ((5 * (dt1016 79 10)).toNat) 8) 79 12 = dt 79 12 by omega]; exact hbb)) (by omega) hz ht hc1048 hi1023 hn5 1 ⟨by omega, by omega⟩ 1 ⟨by omega, by omega⟩ (by first | trivial | omega) (by first | trivial | omega)) ?_
        rintro _ _ ⟨dt1050, rfl, hI1051, hF1052, h1049⟩
        refine ⟨rfl, ?_⟩
        have hF1053 : Fr [79, 82] dt dt1050 := Fr_tr hF1033 hF1052 (by decide)
        rcases h1049 with ⟨rfl, h1049⟩ | ⟨rfl, h1049⟩
        · skip
          obtain ⟨h1049_0, h1049_1, h1049_2, h1049_3, h1049_4⟩ := h1049
          have fl1054 := RSX_0 h1049_0 rfl
          have fe1055 : (gAF (KF 0 b n) (VF b n) (dt 79 10)) i = (gA (KF 0 b n) (VF b n) 1) (i + 1) := hp1024.trans ((show (gAct (KF 0 b n) (VF b n) 8) (i + 1) = gB ((gA (KF 0 b n) (VF b n) 1) (i + 1)) (gK (KF 0 b n) 59) by exact hAc_p rfl).trans (gB_no fl1054.1))
          refine go_ret (k := 3) (r := some (.inl 0)) (w1 := (SH, dt1050)) (fun _ => rfl) ?_
          exact ⟨dt1050, rfl, hI1051, hF1053, (Or.inl ⟨rfl, ⟨by first | exact RSX_f fe1055 fl1054 (by omega) (by omega) | exact RSX_no (k := 1) (j := (i + 1)) (hp1024.trans (by show gAF _ _ _ _ = _; unfold gAF; rw [if_pos (by omega)])) (by decide) (by omega) (by show _ = ((TP b n (i + 1) : Nat) : Int); omega) | exact RSX_no (k := 3) (j := (i + 1)) (hp1024.trans (by show gAF _ _ _ _ = _; unfold gAF; rw [if_neg (by omega), if_pos (by omega)])) (by decide) (by omega) (by show _ = ((TP b n (i + 1) : Nat) : Int); omega) | exact RSX_no (k := 2) (j := (i + 1)) (hp1024.trans (by exact (hA0_p rfl).trans (by unfold gOt; rw [if_pos (by omega)]; rfl))) (by decide) (by omega) (by show _ = ((TP b n (i + 1) : Nat) : Int); omega), by first | trivial | omega, by first | trivial | omega, by first | trivial | omega⟩⟩)⟩
        · skip
          obtain ⟨h1049_0, h1049_1, h1049_2, h1049_3, h1049_4, h1049_5, h1049_6, h1049_7, h1049_8, h1049_9, h1049_10, h1049_11⟩ := h1049
          have ee1056 : (u2 dt1016 82 ((5 * (dt1016 79 10)).toNat) 8) 79 10 = dt 79 10 := by omega
          rw [ee1056] at h1049_1 h1049_2
          have BL1057 : ∀ j : Nat, (j : Int) < 5 * dt 79 10 → dt1050 82 j = dt 82 j := fun j hj => (h1049_2 j (by omega)).trans (BL1046 j hj)
          have Y1058 := (h1049_2 _ (by omega)).trans Y1047
          have Y1059 := h1049_1
          obtain ⟨j1060, ej1061, hc1062⟩ := RSX_1 h1049_0 (by decide)
          have hp1063 : (gAF (KF 0 b n) (VF b n) (dt 79 10)) i = (gK (KF 0 b n) 59) j1060 := hp1024.trans ((show (gAct (KF 0 b n) (VF b n) 8) (i + 1) = gB ((gA (KF 0 b n) (VF b n) 1) (i + 1)) (gK (KF 0 b n) 59) by exact hAc_p rfl).trans (by rw [ej1061]; rfl))
          have hi1064 : j1060 ≤ t := by have z := gA_M (K := (KF 0 b n)) (V := (VF b n)) (m := 1) (i := (i + 1)) hz; rw [ej1061] at z; have y := z rfl; simp only at y; omega
          have cr1065 := CUR_R hc1062 (.inl rfl)
          have cb1066 := CUR_b hc1062
          have cv1067 := CUR_v hc1062
          have ck1068 := KZ_lt (i := j1060) hz
          have c11069 := (hc1062).1
          have ci1070 := hi1064
          have ej1071 : j1060 = (i + 1) + 1 := by have z_ := gA_at (K := (KF 0 b n)) (V := (VF b n)) (m := 1) (i := (i + 1)) (by rw [ej1061]); rw [ej1061] at z_; exact z_
          refine go_to (k := 30) (pc' := 208) (L' := [some (.inr (.inr (some 79))), some (.inl 8)]) (st' := [.inl 159, .inr (.inr (some 79))]) (w' := (SH, dt1050)) (fun _ => rfl) ?_
          refine go_call (Q' := _) rfl rfl rfl rfl rfl (sp_X6_need0_g0 L xs sio (d + 1) dt1050 hI1051 b n t j1060 (by first | exact hbb | (rw [show dt1050 85 = dt 85 from funext (hF1053 85 (by decide)), show dt1050 79 12 = dt 79 12 by omega]; exact hbb)) (by omega) hz ht hc1062 hi1064 hn5 159 ⟨by omega, by omega⟩ (by first | trivial | omega)) ?_
          rintro _ _ ⟨dt1073, rfl, hI1074, hF1075, h1072⟩
          refine ⟨rfl, ?_⟩
          have hF1076 : Fr [79, 82] dt dt1073 := Fr_tr hF1053 hF1075 (by decide)
          rcases h1072 with ⟨rfl, h1072⟩ | ⟨rfl, h1072⟩
          · skip
            obtain ⟨h1072_0, h1072_1, h1072_2, h1072_3, h1072_4⟩ := h1072
            have BL1077 : ∀ j : Nat, (j : Int) < 5 * dt 79 10 → dt1073 82 j = dt 82 j := fun j hj => (hF1075 82 (by decide) j).trans (BL1057 j hj)
            have Y1078 := (hF1075 82 (by decide) _).trans Y1058
            have Y1079 := (hF1075 82 (by decide) _).trans Y1059
            have fl1080 := RSX_0 h1072_0 rfl
            have fe1081 : (gAF (KF 0 b n) (VF b n) (dt 79 10)) i = (gK (KF 0 b n) (159 - 100)) j1060 := hp1063.trans ((show (gK (KF 0 b n) 59) j1060 = gB ((gK (KF 0 b n) (159 - 100)) j1060) gOk by first | exact gB_id.symm | ((repeat (first | rw [hA0_n (by decide)] | rw [hA1_n (by decide)] | rw [hA2_n (by decide)] | rw [hA3_n (by decide)])); exact gB_id.symm)).trans (gB_no fl1080.1))
            refine go_ret (k := 1) (r := some (.inl 0)) (w1 := (SH, dt1073)) (fun _ => rfl) ?_
            exact ⟨dt1073, rfl, hI1074, hF1076, (Or.inl ⟨rfl, ⟨by first | exact RSX_f fe1081 fl1080 (by omega) (by omega) | exact RSX_no (k := 1) (j := j1060) (hp1063.trans (by show gAF _ _ _ _ = _; unfold gAF; rw [if_pos (by omega)])) (by decide) (by omega) (by show _ = ((TP b n j1060 : Nat) : Int); omega) | exact RSX_no (k := 3) (j := j1060) (hp1063.trans (by show gAF _ _ _ _ = _; unfold gAF; rw [if_neg (by omega), if_pos (by omega)])) (by decide) (by omega) (by show _ = ((TP b n j1060 : Nat) : Int); omega) | exact RSX_no (k := 2) (j := j1060) (hp1063.trans (by exact (hA0_p rfl).trans (by unfold gOt; rw [if_pos (by omega)]; rfl))) (by decide) (by omega) (by show _ = ((TP b n j1060 : Nat) : Int); omega), by first | trivial | omega, by first | trivial | omega, by first | trivial | omega⟩⟩)⟩
          · skip
            obtain ⟨h1072_0, h1072_1, h1072_2, h1072_3, h1072_4, h1072_5, h1072_6, h1072_7, h1072_8, h1072_9⟩ := h1072
            have BL1082 : ∀ j : Nat, (j : Int) < 5 * dt 79 10 → dt1073 82 j = dt 82 j := fun j hj => (hF1075 82 (by decide) j).trans (BL1057 j hj)
            have Y1083 := (hF1075 82 (by decide) _).trans Y1058
            have Y1084 := (hF1075 82 (by decide) _).trans Y1059
            obtain ⟨j1085, ej1086, hc1087⟩ := RSX_1 h1072_0 (by decide)
            have hp1088 : (gAF (KF 0 b n) (VF b n) (dt 79 10)) i = gOk j1085 := hp1063.trans ((show (gK (KF 0 b n) 59) j1060 = gB ((gK (KF 0 b n) (159 - 100)) j1060) gOk by first | exact gB_id.symm | ((repeat (first | rw [hA0_n (by decide)] | rw [hA1_n (by decide)] | rw [hA2_n (by decide)] | rw [hA3_n (by decide)])); exact gB_id.symm)).trans (by rw [ej1086]; rfl))
            have hi1089 : j1085 ≤ t := by have z := (fun (h : KZ (KF 0 b n) t) => gK_M (K := (KF 0 b n)) (k := 159 - 100) (i := j1060) h (by decide)) hz; rw [ej1086] at z; have y := z rfl; simp only at y; omega
            have cr1090 := CUR_R hc1087 (.inl rfl)
            have cb1091 := CUR_b hc1087
            have cv1092 := CUR_v hc1087
            have ck1093 := KZ_lt (i := j1085) hz
            have c11094 := (hc1087).1
            have ci1095 := hi1089
            refine go_ret (k := 1) (r := some (.inl 1)) (w1 := (SH, dt1073)) (fun _ => rfl) ?_
            exact ⟨dt1073, rfl, hI1074, hF1076, (Or.inr ⟨rfl, ⟨by exact RSX_ok hp1088 hc1087, by first | trivial | omega, by unfold ARF ATT ABB; exact ⟨by rw [Y1083]; omega, (by first | exact Y1084.trans (congrArg (VF b n) (by omega)) | (rw [Y1084]; congr 1; omega)), fun z_ => by first | (exfalso; omega) | (rw [if_pos (by omega)]; exact (by first | exact hI.trans (congrArg (VF b n) (by omega)) | (rw [hI]; congr 1; omega))) | (rw [if_neg (by omega)]; exact (by first | exact hI.trans (congrArg (VF b n) (by omega)) | (rw [hI]; congr 1; omega))), fun z_ => by first | (exfalso; omega) | (rw [if_pos (by omega)]; exact (by first | exact hI.trans (congrArg (VF b n) (by omega)) | (rw [hI]; congr 1; omega))) | (rw [if_neg (by omega), if_pos (by omega)]; exact (by first | exact hI.trans (congrArg (VF b n) (by omega)) | (rw [hI]; congr 1; omega))) | (rw [if_neg (by omega), if_neg (by omega)]; exact (by first | exact hI.trans (congrArg (VF b n) (by omega)) | (rw [hI]; congr 1; omega))), fun z_ => by first | (exfalso; omega) | exact (by first | exact hI.trans (congrArg (VF b n) (by omega)) | (rw [hI]; congr 1; omega)), fun z_ => by first | (exfalso; omega) | exact (by first | exact hI.trans (congrArg (VF b n) (by omega)) | (rw [hI]; congr 1; omega))⟩, by exact BL1082, by first | trivial | omega, by exact (InvC_get (by assumption) 79 15 rfl rfl).2, by first | trivial | omega, by first | trivial | omega, by first | trivial | omega, by first | trivial | omega, by first | trivial | omega, by first | trivial | omega⟩⟩)⟩
    · skip
      refine go_to (k := 2) (pc' := 31) (L' := [some (.inr (.inr (some 79))), none]) (st' := [.inl 3, .inr (.inr (some 79))]) (w' := (SH, dt)) (fun _ => rfl) ?_
      refine go_call (Q' := _) rfl rfl rfl rfl rfl (sp_X6_bad_g L xs sio (d + 8) dt hI  3 ⟨by omega, by omega⟩ ) ?_
      rintro _ _ ⟨dt1097, rfl, hI1098, hF1099, h1096⟩
      refine ⟨rfl, ?_⟩
      have hF1100 : Fr [79, 82] dt dt1097 := Fr_tr hF hF1099 (by decide)
      rcases h1096 with ⟨rfl, h1096⟩
      obtain ⟨h1096_0, h1096_1, h1096_2, h1096_3, h1096_4, h1096_5, h1096_6, h1096_7, h1096_8, h1096_9, h1096_10, h1096_11⟩ := h1096
      have BL1101 : ∀ j : Nat, (j : Int) < 5 * dt 79 10 → dt1097 82 j = dt 82 j := fun j hj => (hF1099 82 (by decide) j).trans ((fun _ _ => rfl) j hj)
      have hc1102 : CUR 0 b n dt1097 i := CUR_sm hc (by omega) (by omega) (by omega) (by omega)
      refine go_ret (k := 1) (r := some (.inl 0)) (w1 := (SH, dt1097)) (fun _ => rfl) ?_
      exact ⟨dt1097, rfl, hI1098, hF1100, (Or.inl ⟨rfl, ⟨by first | exact RSX_f hI hI (by omega) (by omega) | exact RSX_no (k := 1) (j := i) ((rfl : (gAF (KF 0 b n) (VF b n) (dt 79 10)) i = (gAF (KF 0 b n) (VF b n) (dt 79 10)) i).trans (by show gAF _ _ _ _ = _; unfold gAF; rw [if_pos (by omega)])) (by decide) (by omega) (by show _ = ((TP b n i : Nat) : Int); omega) | exact RSX_no (k := 3) (j := i) ((rfl : (gAF (KF 0 b n) (VF b n) (dt 79 10)) i = (gAF (KF 0 b n) (VF b n) (dt 79 10)) i).trans (by show gAF _ _ _ _ = _; unfold gAF; rw [if_neg (by omega), if_pos (by omega)])) (by decide) (by omega) (by show _ = ((TP b n i : Nat) : Int); omega) | exact RSX_no (k := 2) (j := i) ((rfl : (gAF (KF 0 b n) (VF b n) (dt 79 10)) i = (gAF (KF 0 b n) (VF b n) (dt 79 10)) i).trans (by exact (hA0_p rfl).trans (by unfold gOt; rw [if_pos (by omega)]; rfl))) (by decide) (by omega) (by show _ = ((TP b n i : Nat) : Int); omega), by first | trivial | omega, by first | trivial | omega, by first | trivial | omega⟩⟩)⟩
  · skip
    refine go_to (k := 3) (pc' := 16) (L' := [some (.inr (.inr (some 79))), none]) (st' := [.inl 1, .inr (.inr (some 79))]) (w' := (SH, dt)) (fun _ => rfl) ?_
    refine go_call (Q' := _) rfl rfl rfl rfl rfl (sp_X6_bad_g L xs sio (d + 8) dt hI  1 ⟨by omega, by omega⟩ ) ?_
    rintro _ _ ⟨dt1104, rfl, hI1105, hF1106, h1103⟩
    refine ⟨rfl, ?_⟩
    have hF1107 : Fr [79, 82] dt dt1104 := Fr_tr hF hF1106 (by decide)
    rcases h1103 with ⟨rfl, h1103⟩
    obtain ⟨h1103_0, h1103_1, h1103_2, h1103_3, h1103_4, h1103_5, h1103_6, h1103_7, h1103_8, h1103_9, h1103_10, h1103_11⟩ := h1103
    have BL1108 : ∀ j : Nat, (j : Int) < 5 * dt 79 10 → dt1104 82 j = dt 82 j := fun j hj => (hF1106 82 (by decide) j).trans ((fun _ _ => rfl) j hj)
    have hc1109 : CUR 0 b n dt1104 i := CUR_sm hc (by omega) (by omega) (by omega) (by omega)
    refine go_ret (k := 1) (r := some (.inl 0)) (w1 := (SH, dt1104)) (fun _ => rfl) ?_
    exact ⟨dt1104, rfl, hI1105, hF1107, (Or.inl ⟨rfl, ⟨by first | exact RSX_f hI hI (by omega) (by omega) | exact RSX_no (k := 1) (j := i) ((rfl : (gAF (KF 0 b n) (VF b n) (dt 79 10)) i = (gAF (KF 0 b n) (VF b n) (dt 79 10)) i).trans (by show gAF _ _ _ _ = _; unfold gAF; rw [if_pos (by omega)])) (by decide) (by omega) (by show _ = ((TP b n i : Nat) : Int); omega) | exact RSX_no (k := 3) (j := i) ((rfl : (gAF (KF 0 b n) (VF b n) (dt 79 10)) i = (gAF (KF 0 b n) (VF b n) (dt 79 10)) i).trans (by show gAF _ _ _ _ = _; unfold gAF; rw [if_neg (by omega), if_pos (by omega)])) (by decide) (by omega) (by show _ = ((TP b n i : Nat) : Int); omega) | exact RSX_no (k := 2) (j := i) ((rfl : (gAF (KF 0 b n) (VF b n) (dt 79 10)) i = (gAF (KF 0 b n) (VF b n) (dt 79 10)) i).trans (by exact (hA0_p rfl).trans (by unfold gOt; rw [if_pos (by omega)]; rfl))) (by decide) (by omega) (by show _ = ((TP b n i : Nat) : Int); omega), by first | trivial | omega, by first | trivial | omega, by first | trivial | omega⟩⟩)⟩
set_option maxHeartbeats 8000000 in
set_option maxRecDepth 20000 in
theorem sp_X6_aLine_g1 (L : Nat) (xs : Nat → Int32) (sio : Option Nat) (d : Nat) (dt : Nat → Nat → Int) (hI : InvC dt) (b : Nat → Int) (n t i : Nat) (hbb : mB (dt 85) (dt 79 12) = b) (hnn : dt 79 12 = (n : Int)) (hz : KZ (KF 1 b n) t) (ht : t ≤ 500) (hc : CUR 1 b n dt i) (hi : i ≤ t) (hn5 : n ≤ 500)  (h_p0 : dt 79 9 = 1) (h_p1 : dt 79 11 ≤ dt 79 15) (h_p2 : 0 ≤ dt 79 10 ∧ dt 79 10 ≤ 16) : GO (am_XX L xs sio) (d + 37) 173 0 [some (.inr (.inr (some 79))), none] [] (SH, dt) (fun r w2 => ∃ dt2 : Nat → Nat → Int, w2 = (SH, dt2) ∧ InvC dt2 ∧ Fr [79, 83, 84] dt dt2 ∧ ((r = some (.inl 0) ∧ (RSX 1 b n i dt2 0 ((gLF (KF 1 b n) (VF b n) (dt 79 10)) i)) ∧ (dt2 79 2 = dt 79 2) ∧ (dt2 79 9 = dt 79 9) ∧ (dt2 79 10 = dt 79 10) ∧ (dt2 79 12 = dt 79 12)) ∨ (r = some (.inl 1) ∧ (RSX 1 b n i dt2 1 ((gLF (KF 1 b n) (VF b n) (dt 79 10)) i)) ∧ (dt 79 10 ≤ 15) ∧ (dt 79 11 ≤ dt2 79 11) ∧ (dt 79 15 + dt2 79 11 ≤ dt2 79 15 + dt 79 11) ∧ (dt 79 15 + 1 ≤ dt2 79 15) ∧ (dt2 79 15 ≤ 500) ∧ (dt2 79 2 = dt 79 2) ∧ (dt2 79 9 = dt 79 9) ∧ (dt2 79 10 = dt 79 10) ∧ (dt2 79 12 = dt 79 12) ∧ (dt2 79 17 = dt 79 17)))) := by
  have hF : Fr [79, 83, 84] dt dt := Fr_refl
  have r1 : 0 ≤ dt 79 15 ∧ dt 79 15 ≤ 500 := InvC_get hI 79 15 rfl rfl
  have r2 : 0 ≤ dt 79 11 ∧ dt 79 11 ≤ 510 := InvC_get hI 79 11 rfl rfl
  have r3 : 0 ≤ dt 79 10 ∧ dt 79 10 ≤ 24 := InvC_get hI 79 10 rfl rfl
  have cr0 := CUR_R hc (.inr rfl)
  have cb0 := CUR_b hc
  have cv0 := CUR_v hc
  have ck0 := KZ_lt (i := i) hz
  have c10 := hc.1
  have r4 : (-2147483648) ≤ dt 79 14 ∧ dt 79 14 ≤ 2147483647 := InvC_get hI 79 14 rfl rfl
  refine go_if (k := 4) (p1 := 24) (p2 := 9) (L' := [some (.inr (.inr (some 79))), none]) (st' := []) (w' := (SH, dt)) (fun _ => rfl) (c_eq (a := dt 79 14) (b := 7) ⟨by omega, by omega⟩ ⟨by omega, by omega⟩) (fun c5 => ?_) (fun c5 => ?_)
  · skip
    refine go_if (k := 4) (p1 := 39) (p2 := 33) (L' := [some (.inr (.inr (some 79))), none]) (st' := []) (w' := (SH, dt)) (fun _ => rfl) (c_ne (a := dt 79 10) (b := 16) ⟨by omega, by omega⟩ ⟨by omega, by omega⟩) (fun c6 => ?_) (fun c6 => ?_)
    · skip
      refine go_if (k := 4) (p1 := 52) (p2 := 48) (L' := [some (.inr (.inr (some 79))), none]) (st' := []) (w' := (SH, dt)) (fun _ => rfl) (c_ne (a := dt 79 14) (b := 7) ⟨by omega, by omega⟩ ⟨by omega, by omega⟩) (fun c7 => ?_) (fun c7 => ?_)
      · skip
        refine go_to (k := 4) (pc' := 56) (L' := [some (.inr (.inr (some 79))), some (.inl 0)]) (st' := [.inl 0, .inr (.inr (some 79))]) (w' := (SH, dt)) (fun _ => rfl) ?_
        have hI8 : InvC (u2 dt 79 20 0) := InvC_u2 hI (lo := 0) (hi := 8) rfl rfl rfl (by omega) (by omega)
        have hF9 : Fr [79, 83, 84] dt (u2 dt 79 20 0) := Fr_u2 hF (by decide)
        have w10 : (u2 dt 79 20 0) 79 2 = dt 79 2 := rfl
        have w11 : (u2 dt 79 20 0) 79 9 = dt 79 9 := rfl
        have w12 : (u2 dt 79 20 0) 79 10 = dt 79 10 := rfl
        have w13 : (u2 dt 79 20 0) 79 11 = dt 79 11 := rfl
        have w14 : (u2 dt 79 20 0) 79 12 = dt 79 12 := rfl
        have w15 : (u2 dt 79 20 0) 79 13 = dt 79 13 := rfl
        have w16 : (u2 dt 79 20 0) 79 14 = dt 79 14 := rfl
        have w17 : (u2 dt 79 20 0) 79 15 = dt 79 15 := rfl
        have w18 : (u2 dt 79 20 0) 79 16 = dt 79 16 := rfl
        have w19 : (u2 dt 79 20 0) 79 17 = dt 79 17 := rfl
        have w20 : (u2 dt 79 20 0) 79 18 = dt 79 18 := rfl
        have w21 : (u2 dt 79 20 0) 79 20 = 0 := rfl
        have hc22 : CUR 1 b n (u2 dt 79 20 0) i := CUR_sm hc rfl rfl rfl rfl
        refine go_smp (L' := [some (.inr (.inr (some 79))), some (.inl 0)]) (st' := []) (w' := (SH, (u2 dt 79 20 0))) rfl rfl (s_pf rfl rfl rfl rfl ⟨by omega, by omega⟩) ?_
        refine go_to (k := 1) (pc' := 60) (L' := [some (.inr (.inr (some 79))), some (.inl 0)]) (st' := [.inr (.inr (some 79))]) (w' := (SH, (u2 dt 79 20 0))) (fun _ => rfl) ?_
        refine go_call (Q' := _) rfl rfl rfl rfl rfl (sp_X6_next0_p1 L xs sio (d + 30) (u2 dt 79 20 0) hI8   (by first | trivial | omega) (by first | trivial | omega)) ?_
        rintro _ _ ⟨dt24, rfl, hI25, hF26, h23⟩
        refine ⟨rfl, ?_⟩
        have hF27 : Fr [79, 83, 84] dt dt24 := Fr_tr hF9 hF26 (by decide)
        rcases h23 with ⟨rfl, h23⟩
        obtain ⟨h23_0, h23_1, h23_2, h23_3, h23_4, h23_5, h23_6, h23_7, h23_8⟩ := h23
        have hq28 := h23_0
        rw [show (u2 dt 79 20 0) 85 = dt 85 from funext (hF9 85 (by decide)), show (u2 dt 79 20 0) 79 12 = dt 79 12 by omega, hbb, show (dt 79 12).toNat = n by omega] at hq28
        have hc29 : CUR 1 b n dt24 (i + 1) := CUR_n hc22 hq28
        have hi30 : i + 1 ≤ t := by omega
        have hp31 : (gLF (KF 1 b n) (VF b n) (dt 79 10)) i = (gL1 (KF 1 b n) (VF b n)) (i + 1) := (rfl : (gLF (KF 1 b n) (VF b n) (dt 79 10)) i = (gLF (KF 1 b n) (VF b n) (dt 79 10)) i).trans (by show gLF _ _ _ _ = _; unfold gLF; rw [if_neg (by omega), if_neg (by omega)]; exact gLine_p (by omega))
        have cr32 := CUR_R hc29 (.inr rfl)
        have cb33 := CUR_b hc29
        have cv34 := CUR_v hc29
        have ck35 := KZ_lt (i := (i + 1)) hz
        have c136 := (hc29).1
        have ci37 := hi30
        have r38 : 0 ≤ dt24 79 10 ∧ dt24 79 10 ≤ 24 := InvC_get hI25 79 10 rfl rfl
        refine go_to (k := 9) (pc' := 86) (L' := [some (.inr (.inr (some 79))), some (.inl 0)]) (st' := [.inl 8, .inl (4 * (dt24 79 10)), .inr (.inr (some 83))]) (w' := (SH, dt24)) (fun _ => rfl) ?_
        have hI39 : InvC (u2 dt24 83 ((4 * (dt24 79 10)).toNat) 8) := InvC_u2 hI25 (lo := -2147483648) (hi := 2147483647) rfl rfl rfl (by omega) (by omega)
        have hF40 : Fr [79, 83, 84] dt (u2 dt24 83 ((4 * (dt24 79 10)).toNat) 8) := Fr_u2 hF27 (by decide)
        have w41 : (u2 dt24 83 ((4 * (dt24 79 10)).toNat) 8) 79 2 = dt24 79 2 := rfl
        have w42 : (u2 dt24 83 ((4 * (dt24 79 10)).toNat) 8) 79 9 = dt24 79 9 := rfl
        have w43 : (u2 dt24 83 ((4 * (dt24 79 10)).toNat) 8) 79 10 = dt24 79 10 := rfl
        have w44 : (u2 dt24 83 ((4 * (dt24 79 10)).toNat) 8) 79 11 = dt24 79 11 := rfl
        have w45 : (u2 dt24 83 ((4 * (dt24 79 10)).toNat) 8) 79 12 = dt24 79 12 := rfl
        have w46 : (u2 dt24 83 ((4 * (dt24 79 10)).toNat) 8) 79 13 = dt24 79 13 := rfl
        have w47 : (u2 dt24 83 ((4 * (dt24 79 10)).toNat) 8) 79 14 = dt24 79 14 := rfl
        have w48 : (u2 dt24 83 ((4 * (dt24 79 10)).toNat) 8) 79 15 = dt24 79 15 := rfl
        have w49 : (u2 dt24 83 ((4 * (dt24 79 10)).toNat) 8) 79 16 = dt24 79 16 := rfl
        have w50 : (u2 dt24 83 ((4 * (dt24 79 10)).toNat) 8) 79 17 = dt24 79 17 := rfl
        have w51 : (u2 dt24 83 ((4 * (dt24 79 10)).toNat) 8) 79 18 = dt24 79 18 := rfl
        have w52 : (u2 dt24 83 ((4 * (dt24 79 10)).toNat) 8) 79 20 = dt24 79 20 := rfl
        have hc53 : CUR 1 b n (u2 dt24 83 ((4 * (dt24 79 10)).toNat) 8) (i + 1) := CUR_sm hc29 rfl rfl rfl rfl
        refine go_smp (L' := [some (.inr (.inr (some 79))), some (.inl 0)]) (st' := []) (w' := (SH, (u2 dt24 83 ((4 * (dt24 79 10)).toNat) 8))) rfl rfl (s_iast (n := 64) rfl ⟨by omega, by omega⟩ ⟨by omega, by omega⟩) ?_
        have r54 : 0 ≤ dt24 79 11 ∧ dt24 79 11 ≤ 510 := InvC_get hI25 79 11 rfl rfl
        refine go_to (k := 12) (pc' := 119) (L' := [some (.inr (.inr (some 79))), some (.inl 0)]) (st' := [.inl (dt24 79 11), .inl ((4 * (dt24 79 10)) + 1), .inr (.inr (some 83))]) (w' := (SH, (u2 dt24 83 ((4 * (dt24 79 10)).toNat) 8))) (fun _ => rfl) ?_
        have hI55 : InvC (u2 (u2 dt24 83 ((4 * (dt24 79 10)).toNat) 8) 83 (((4 * (dt24 79 10)) + 1).toNat) (dt24 79 11)) := InvC_u2 hI39 (lo := -2147483648) (hi := 2147483647) rfl rfl rfl (by omega) (by omega)
        have hF56 : Fr [79, 83, 84] dt (u2 (u2 dt24 83 ((4 * (dt24 79 10)).toNat) 8) 83 (((4 * (dt24 79 10)) + 1).toNat) (dt24 79 11)) := Fr_u2 hF40 (by decide)
        have w57 : (u2 (u2 dt24 83 ((4 * (dt24 79 10)).toNat) 8) 83 (((4 * (dt24 79 10)) + 1).toNat) (dt24 79 11)) 79 2 = (u2 dt24 83 ((4 * (dt24 79 10)).toNat) 8) 79 2 := rfl
        have w58 : (u2 (u2 dt24 83 ((4 * (dt24 79 10)).toNat) 8) 83 (((4 * (dt24 79 10)) + 1).toNat) (dt24 79 11)) 79 9 = (u2 dt24 83 ((4 * (dt24 79 10)).toNat) 8) 79 9 := rfl
        have w59 : (u2 (u2 dt24 83 ((4 * (dt24 79 10)).toNat) 8) 83 (((4 * (dt24 79 10)) + 1).toNat) (dt24 79 11)) 79 10 = (u2 dt24 83 ((4 * (dt24 79 10)).toNat) 8) 79 10 := rfl
        have w60 : (u2 (u2 dt24 83 ((4 * (dt24 79 10)).toNat) 8) 83 (((4 * (dt24 79 10)) + 1).toNat) (dt24 79 11)) 79 11 = (u2 dt24 83 ((4 * (dt24 79 10)).toNat) 8) 79 11 := rfl
        have w61 : (u2 (u2 dt24 83 ((4 * (dt24 79 10)).toNat) 8) 83 (((4 * (dt24 79 10)) + 1).toNat) (dt24 79 11)) 79 12 = (u2 dt24 83 ((4 * (dt24 79 10)).toNat) 8) 79 12 := rfl
        have w62 : (u2 (u2 dt24 83 ((4 * (dt24 79 10)).toNat) 8) 83 (((4 * (dt24 79 10)) + 1).toNat) (dt24 79 11)) 79 13 = (u2 dt24 83 ((4 * (dt24 79 10)).toNat) 8) 79 13 := rfl
        have w63 : (u2 (u2 dt24 83 ((4 * (dt24 79 10)).toNat) 8) 83 (((4 * (dt24 79 10)) + 1).toNat) (dt24 79 11)) 79 14 = (u2 dt24 83 ((4 * (dt24 79 10)).toNat) 8) 79 14 := rfl
        have w64 : (u2 (u2 dt24 83 ((4 * (dt24 79 10)).toNat) 8) 83 (((4 * (dt24 79 10)) + 1).toNat) (dt24 79 11)) 79 15 = (u2 dt24 83 ((4 * (dt24 79 10)).toNat) 8) 79 15 := rfl
        have w65 : (u2 (u2 dt24 83 ((4 * (dt24 79 10)).toNat) 8) 83 (((4 * (dt24 79 10)) + 1).toNat) (dt24 79 11)) 79 16 = (u2 dt24 83 ((4 * (dt24 79 10)).toNat) 8) 79 16 := rfl
        have w66 : (u2 (u2 dt24 83 ((4 * (dt24 79 10)).toNat) 8) 83 (((4 * (dt24 79 10)) + 1).toNat) (dt24 79 11)) 79 17 = (u2 dt24 83 ((4 * (dt24 79 10)).toNat) 8) 79 17 := rfl
        have w67 : (u2 (u2 dt24 83 ((4 * (dt24 79 10)).toNat) 8) 83 (((4 * (dt24 79 10)) + 1).toNat) (dt24 79 11)) 79 18 = (u2 dt24 83 ((4 * (dt24 79 10)).toNat) 8) 79 18 := rfl
        have w68 : (u2 (u2 dt24 83 ((4 * (dt24 79 10)).toNat) 8) 83 (((4 * (dt24 79 10)) + 1).toNat) (dt24 79 11)) 79 20 = (u2 dt24 83 ((4 * (dt24 79 10)).toNat) 8) 79 20 := rfl
        have hc69 : CUR 1 b n (u2 (u2 dt24 83 ((4 * (dt24 79 10)).toNat) 8) 83 (((4 * (dt24 79 10)) + 1).toNat) (dt24 79 11)) (i + 1) := CUR_sm hc53 rfl rfl rfl rfl
        refine go_smp (L' := [some (.inr (.inr (some 79))), some (.inl 0)]) (st' := []) (w' := (SH, (u2 (u2 dt24 83 ((4 * (dt24 79 10)).toNat) 8) 83 (((4 * (dt24 79 10)) + 1).toNat) (dt24 79 11)))) rfl rfl (s_iast (n := 64) rfl ⟨by omega, by omega⟩ ⟨by omega, by omega⟩) ?_
        refine go_to (k := 1) (pc' := 121) (L' := [some (.inr (.inr (some 79))), some (.inl 0)]) (st' := [.inr (.inr (some 79))]) (w' := (SH, (u2 (u2 dt24 83 ((4 * (dt24 79 10)).toNat) 8) 83 (((4 * (dt24 79 10)) + 1).toNat) (dt24 79 11)))) (fun _ => rfl) ?_
        refine go_call (Q' := _) rfl rfl rfl rfl rfl (sp_X6_sumUp_g L xs sio (d + 27) (u2 (u2 dt24 83 ((4 * (dt24 79 10)).toNat) 8) 83 (((4 * (dt24 79 10)) + 1).toNat) (dt24 79 11)) hI55 b n t (i + 1) (by first | exact hbb | (rw [show (u2 (u2 dt24 83 ((4 * (dt24 79 10)).toNat) 8) 83 (((4 * (dt24 79 10)) + 1).toNat) (dt24 79 11)) 85 = dt 85 from funext (hF56 85 (by decide)), show (u2 (u2 dt24 83 ((4 * (dt24 79 10)).toNat) 8) 83 (((4 * (dt24 79 10)) + 1).toNat) (dt24 79 11)) 79 12 = dt 79 12 by omega]; exact hbb)) (by omega) hz ht hc69 hi30 hn5  (by first | trivial | omega) (by first | trivial | omega)) ?_
        rintro _ _ ⟨dt71, rfl, hI72, hF73, h70⟩
        refine ⟨rfl, ?_⟩
        have hF74 : Fr [79, 83, 84] dt dt71 := Fr_tr hF56 hF73 (by decide)
        rcases h70 with ⟨rfl, h70⟩ | ⟨rfl, h70⟩
        · skip
          obtain ⟨h70_0, h70_1, h70_2, h70_3, h70_4⟩ := h70
          have fl75 := RSX_0 h70_0 rfl
          have fe76 : (gLF (KF 1 b n) (VF b n) (dt 79 10)) i = (gE (KF 1 b n) (VF b n)) (i + 1) := hp31.trans ((show (gL1 (KF 1 b n) (VF b n)) (i + 1) = gB ((gE (KF 1 b n) (VF b n)) (i + 1)) (gL2 (KF 1 b n) (VF b n)) by rfl).trans (gB_no fl75.1))
          refine go_ret (k := 3) (r := some (.inl 0)) (w1 := (SH, dt71)) (fun _ => rfl) ?_
          exact ⟨dt71, rfl, hI72, hF74, (Or.inl ⟨rfl, ⟨by first | exact RSX_f fe76 fl75 (by omega) (by omega) | exact RSX_no (k := 1) (j := (i + 1)) (hp31.trans (by show gLF _ _ _ _ = _; unfold gLF; rw [if_pos (by omega)])) (by decide) (by omega) (by show _ = ((TP b n (i + 1) : Nat) : Int); omega), by first | trivial | omega, by first | trivial | omega, by first | trivial | omega, by first | trivial | omega⟩⟩)⟩
        · skip
          obtain ⟨h70_0, h70_1, h70_2, h70_3, h70_4, h70_5, h70_6, h70_7, h70_8, h70_9⟩ := h70
          obtain ⟨j77, ej78, hc79⟩ := RSX_1 h70_0 (by decide)
          have hp80 : (gLF (KF 1 b n) (VF b n) (dt 79 10)) i = (gL2 (KF 1 b n) (VF b n)) j77 := hp31.trans ((show (gL1 (KF 1 b n) (VF b n)) (i + 1) = gB ((gE (KF 1 b n) (VF b n)) (i + 1)) (gL2 (KF 1 b n) (VF b n)) by rfl).trans (by rw [ej78]; rfl))
          have hi81 : j77 ≤ t := by have z := gE_M (K := (KF 1 b n)) (V := (VF b n)) (i := (i + 1)) hz; rw [ej78] at z; have y := z rfl; simp only at y; omega
          have cr82 := CUR_R hc79 (.inr rfl)
          have cb83 := CUR_b hc79
          have cv84 := CUR_v hc79
          have ck85 := KZ_lt (i := j77) hz
          have c186 := (hc79).1
          have ci87 := hi81
          have r88 : 0 ≤ dt71 79 10 ∧ dt71 79 10 ≤ 24 := InvC_get hI72 79 10 rfl rfl
          have r89 : 0 ≤ dt71 79 11 ∧ dt71 79 11 ≤ 510 := InvC_get hI72 79 11 rfl rfl
          refine go_to (k := 11) (pc' := 145) (L' := [some (.inr (.inr (some 79))), some (.inl 0)]) (st' := [.inl (dt71 79 11), .inl ((4 * (dt71 79 10)) + 2), .inr (.inr (some 83))]) (w' := (SH, dt71)) (fun _ => rfl) ?_
          have hI90 : InvC (u2 dt71 83 (((4 * (dt71 79 10)) + 2).toNat) (dt71 79 11)) := InvC_u2 hI72 (lo := -2147483648) (hi := 2147483647) rfl rfl rfl (by omega) (by omega)
          have hF91 : Fr [79, 83, 84] dt (u2 dt71 83 (((4 * (dt71 79 10)) + 2).toNat) (dt71 79 11)) := Fr_u2 hF74 (by decide)
          have w92 : (u2 dt71 83 (((4 * (dt71 79 10)) + 2).toNat) (dt71 79 11)) 79 2 = dt71 79 2 := rfl
          have w93 : (u2 dt71 83 (((4 * (dt71 79 10)) + 2).toNat) (dt71 79 11)) 79 9 = dt71 79 9 := rfl
          have w94 : (u2 dt71 83 (((4 * (dt71 79 10)) + 2).toNat) (dt71 79 11)) 79 10 = dt71 79 10 := rfl
          have w95 : (u2 dt71 83 (((4 * (dt71 79 10)) + 2).toNat) (dt71 79 11)) 79 11 = dt71 79 11 := rfl
          have w96 : (u2 dt71 83 (((4 * (dt71 79 10)) + 2).toNat) (dt71 79 11)) 79 12 = dt71 79 12 := rfl
          have w97 : (u2 dt71 83 (((4 * (dt71 79 10)) + 2).toNat) (dt71 79 11)) 79 13 = dt71 79 13 := rfl
          have w98 : (u2 dt71 83 (((4 * (dt71 79 10)) + 2).toNat) (dt71 79 11)) 79 14 = dt71 79 14 := rfl
          have w99 : (u2 dt71 83 (((4 * (dt71 79 10)) + 2).toNat) (dt71 79 11)) 79 15 = dt71 79 15 := rfl
          have w100 : (u2 dt71 83 (((4 * (dt71 79 10)) + 2).toNat) (dt71 79 11)) 79 16 = dt71 79 16 := rfl
          have w101 : (u2 dt71 83 (((4 * (dt71 79 10)) + 2).toNat) (dt71 79 11)) 79 17 = dt71 79 17 := rfl
          have w102 : (u2 dt71 83 (((4 * (dt71 79 10)) + 2).toNat) (dt71 79 11)) 79 18 = dt71 79 18 := rfl
          have w103 : (u2 dt71 83 (((4 * (dt71 79 10)) + 2).toNat) (dt71 79 11)) 79 20 = dt71 79 20 := rfl
          have hc104 : CUR 1 b n (u2 dt71 83 (((4 * (dt71 79 10)) + 2).toNat) (dt71 79 11)) j77 := CUR_sm hc79 rfl rfl rfl rfl
          refine go_smp (L' := [some (.inr (.inr (some 79))), some (.inl 0)]) (st' := []) (w' := (SH, (u2 dt71 83 (((4 * (dt71 79 10)) + 2).toNat) (dt71 79 11)))) rfl rfl (s_iast (n := 64) rfl ⟨by omega, by omega⟩ ⟨by omega, by omega⟩) ?_
          have r105 : (-2147483648) ≤ dt71 79 14 ∧ dt71 79 14 ≤ 2147483647 := InvC_get hI72 79 14 rfl rfl
          refine go_if (k := 4) (p1 := 167) (p2 := 154) (L' := [some (.inr (.inr (some 79))), some (.inl 0)]) (st' := []) (w' := (SH, (u2 dt71 83 (((4 * (dt71 79 10)) + 2).toNat) (dt71 79 11)))) (fun _ => rfl) (c_ne (a := dt71 79 14) (b := 3) ⟨by omega, by omega⟩ ⟨by omega, by omega⟩) (fun c106 => ?_) (fun c106 => ?_)
          · skip
            refine go_to (k := 10) (pc' := 183) (L' := [some (.inr (.inr (some 79))), some (.inl 0)]) (st' := [.inl (dt71 79 11), .inl ((4 * (dt71 79 10)) + 3), .inr (.inr (some 83))]) (w' := (SH, (u2 dt71 83 (((4 * (dt71 79 10)) + 2).toNat) (dt71 79 11)))) (fun _ => rfl) ?_
            have hI107 : InvC (u2 (u2 dt71 83 (((4 * (dt71 79 10)) + 2).toNat) (dt71 79 11)) 83 (((4 * (dt71 79 10)) + 3).toNat) (dt71 79 11)) := InvC_u2 hI90 (lo := -2147483648) (hi := 2147483647) rfl rfl rfl (by omega) (by omega)
            have hF108 : Fr [79, 83, 84] dt (u2 (u2 dt71 83 (((4 * (dt71 79 10)) + 2).toNat) (dt71 79 11)) 83 (((4 * (dt71 79 10)) + 3).toNat) (dt71 79 11)) := Fr_u2 hF91 (by decide)
            have w109 : (u2 (u2 dt71 83 (((4 * (dt71 79 10)) + 2).toNat) (dt71 79 11)) 83 (((4 * (dt71 79 10)) + 3).toNat) (dt71 79 11)) 79 2 = (u2 dt71 83 (((4 * (dt71 79 10)) + 2).toNat) (dt71 79 11)) 79 2 := rfl
            have w110 : (u2 (u2 dt71 83 (((4 * (dt71 79 10)) + 2).toNat) (dt71 79 11)) 83 (((4 * (dt71 79 10)) + 3).toNat) (dt71 79 11)) 79 9 = (u2 dt71 83 (((4 * (dt71 79 10)) + 2).toNat) (dt71 79 11)) 79 9 := rfl
            have w111 : (u2 (u2 dt71 83 (((4 * (dt71 79 10)) + 2).toNat) (dt71 79 11)) 83 (((4 * (dt71 79 10)) + 3).toNat) (dt71 79 11)) 79 10 = (u2 dt71 83 (((4 * (dt71 79 10)) + 2).toNat) (dt71 79 11)) 79 10 := rfl
            have w112 : (u2 (u2 dt71 83 (((4 * (dt71 79 10)) + 2).toNat) (dt71 79 11)) 83 (((4 * (dt71 79 10)) + 3).toNat) (dt71 79 11)) 79 11 = (u2 dt71 83 (((4 * (dt71 79 10)) + 2).toNat) (dt71 79 11)) 79 11 := rfl
            have w113 : (u2 (u2 dt71 83 (((4 * (dt71 79 10)) + 2).toNat) (dt71 79 11)) 83 (((4 * (dt71 79 10)) + 3).toNat) (dt71 79 11)) 79 12 = (u2 dt71 83 (((4 * (dt71 79 10)) + 2).toNat) (dt71 79 11)) 79 12 := rfl
            have w114 : (u2 (u2 dt71 83 (((4 * (dt71 79 10)) + 2).toNat) (dt71 79 11)) 83 (((4 * (dt71 79 10)) + 3).toNat) (dt71 79 11)) 79 13 = (u2 dt71 83 (((4 * (dt71 79 10)) + 2).toNat) (dt71 79 11)) 79 13 := rfl
            have w115 : (u2 (u2 dt71 83 (((4 * (dt71 79 10)) + 2).toNat) (dt71 79 11)) 83 (((4 * (dt71 79 10)) + 3).toNat) (dt71 79 11)) 79 14 = (u2 dt71 83 (((4 * (dt71 79 10)) + 2).toNat) (dt71 79 11)) 79 14 := rfl
            have w116 : (u2 (u2 dt71 83 (((4 * (dt71 79 10)) + 2).toNat) (dt71 79 11)) 83 (((4 * (dt71 79 10)) + 3).toNat) (dt71 79 11)) 79 15 = (u2 dt71 83 (((4 * (dt71 79 10)) + 2).toNat) (dt71 79 11)) 79 15 := rfl
            have w117 : (u2 (u2 dt71 83 (((4 * (dt71 79 10)) + 2).toNat) (dt71 79 11)) 83 (((4 * (dt71 79 10)) + 3).toNat) (dt71 79 11)) 79 16 = (u2 dt71 83 (((4 * (dt71 79 10)) + 2).toNat) (dt71 79 11)) 79 16 := rfl
            have w118 : (u2 (u2 dt71 83 (((4 * (dt71 79 10)) + 2).toNat) (dt71 79 11)) 83 (((4 * (dt71 79 10)) + 3).toNat) (dt71 79 11)) 79 17 = (u2 dt71 83 (((4 * (dt71 79 10)) + 2).toNat) (dt71 79 11)) 79 17 := rfl
            have w119 : (u2 (u2 dt71 83 (((4 * (dt71 79 10)) + 2).toNat) (dt71 79 11)) 83 (((4 * (dt71 79 10)) + 3).toNat) (dt71 79 11)) 79 18 = (u2 dt71 83 (((4 * (dt71 79 10)) + 2).toNat) (dt71 79 11)) 79 18 := rfl
            have w120 : (u2 (u2 dt71 83 (((4 * (dt71 79 10)) + 2).toNat) (dt71 79 11)) 83 (((4 * (dt71 79 10)) + 3).toNat) (dt71 79 11)) 79 20 = (u2 dt71 83 (((4 * (dt71 79 10)) + 2).toNat) (dt71 79 11)) 79 20 := rfl
            have hc121 : CUR 1 b n (u2 (u2 dt71 83 (((4 * (dt71 79 10)) + 2).toNat) (dt71 79 11)) 83 (((4 * (dt71 79 10)) + 3).toNat) (dt71 79 11)) j77 := CUR_sm hc104 rfl rfl rfl rfl
            refine go_smp (L' := [some (.inr (.inr (some 79))), some (.inl 0)]) (st' := []) (w' := (SH, (u2 (u2 dt71 83 (((4 * (dt71 79 10)) + 2).toNat) (dt71 79 11)) 83 (((4 * (dt71 79 10)) + 3).toNat) (dt71 79 11)))) rfl rfl (s_iast (n := 64) rfl ⟨by omega, by omega⟩ ⟨by omega, by omega⟩) ?_
            refine go_to (k := 2) (pc' := 188) (L' := [some (.inr (.inr (some 79))), some (.inl 0)]) (st' := [.inl 159, .inr (.inr (some 79))]) (w' := (SH, (u2 (u2 dt71 83 (((4 * (dt71 79 10)) + 2).toNat) (dt71 79 11)) 83 (((4 * (dt71 79 10)) + 3).toNat) (dt71 79 11)))) (fun _ => rfl) ?_
            refine go_call (Q' := _) rfl rfl rfl rfl rfl (sp_X6_need0_g1 L xs sio (d + 29) (u2 (u2 dt71 83 (((4 * (dt71 79 10)) + 2).toNat) (dt71 79 11)) 83 (((4 * (dt71 79 10)) + 3).toNat) (dt71 79 11)) hI107 b n t j77 (by first | exact hbb | (rw [show (u2 (u2 dt71 83 (((4 * (dt71 79 10)) + 2).toNat) (dt71 79 11)) 83 (((4 * (dt71 79 10)) + 3).toNat) (dt71 79 11)) 85 = dt 85 from funext (hF108 85 (by decide)), show (u2 (u2 dt71 83 (((4 * (dt71 79 10)) + 2).toNat) (dt71 79 11)) 83 (((4 * (dt71 79 10)) + 3).toNat) (dt71 79 11)) 79 12 = dt 79 12 by omega]; exact hbb)) (by omega) hz ht hc121 hi81 hn5 159 ⟨by omega, by omega⟩ (by first | trivial | omega)) ?_
            rintro _ _ ⟨dt123, rfl, hI124, hF125, h122⟩
            refine ⟨rfl, ?_⟩
            have hF126 : Fr [79, 83, 84] dt dt123 := Fr_tr hF108 hF125 (by decide)
            rcases h122 with ⟨rfl, h122⟩ | ⟨rfl, h122⟩
            · skip
              obtain ⟨h122_0, h122_1, h122_2, h122_3, h122_4⟩ := h122
              have fl127 := RSX_0 h122_0 rfl
              have fe128 : (gLF (KF 1 b n) (VF b n) (dt 79 10)) i = (gK (KF 1 b n) (159 - 100)) j77 := hp80.trans ((show (gL2 (KF 1 b n) (VF b n)) j77 = gB ((gK (KF 1 b n) (159 - 100)) j77) gOk by first | exact gB_id.symm | exact gL2_n (by omega)).trans (gB_no fl127.1))
              refine go_ret (k := 1) (r := some (.inl 0)) (w1 := (SH, dt123)) (fun _ => rfl) ?_
              exact ⟨dt123, rfl, hI124, hF126, (Or.inl ⟨rfl, ⟨by first | exact RSX_f fe128 fl127 (by omega) (by omega) | exact RSX_no (k := 1) (j := j77) (hp80.trans (by show gLF _ _ _ _ = _; unfold gLF; rw [if_pos (by omega)])) (by decide) (by omega) (by show _ = ((TP b n j77 : Nat) : Int); omega), by first | trivial | omega, by first | trivial | omega, by first | trivial | omega, by first | trivial | omega⟩⟩)⟩
            · skip
              obtain ⟨h122_0, h122_1, h122_2, h122_3, h122_4, h122_5, h122_6, h122_7, h122_8, h122_9⟩ := h122
              obtain ⟨j129, ej130, hc131⟩ := RSX_1 h122_0 (by decide)
              have hp132 : (gLF (KF 1 b n) (VF b n) (dt 79 10)) i = gOk j129 := hp80.trans ((show (gL2 (KF 1 b n) (VF b n)) j77 = gB ((gK (KF 1 b n) (159 - 100)) j77) gOk by first | exact gB_id.symm | exact gL2_n (by omega)).trans (by rw [ej130]; rfl))
              have hi133 : j129 ≤ t := by have z := (fun (h : KZ (KF 1 b n) t) => gK_M (K := (KF 1 b n)) (k := 159 - 100) (i := j77) h (by decide)) hz; rw [ej130] at z; have y := z rfl; simp only at y; omega
              have cr134 := CUR_R hc131 (.inr rfl)
              have cb135 := CUR_b hc131
              have cv136 := CUR_v hc131
              have ck137 := KZ_lt (i := j129) hz
              have c1138 := (hc131).1
              have ci139 := hi133
              refine go_ret (k := 1) (r := some (.inl 1)) (w1 := (SH, dt123)) (fun _ => rfl) ?_
              exact ⟨dt123, rfl, hI124, hF126, (Or.inr ⟨rfl, ⟨by exact RSX_ok (hp132.trans (by rfl)) hc131, by first | trivial | omega, by first | trivial | omega, by first | trivial | omega, by first | trivial | omega, by exact (InvC_get (by assumption) 79 15 rfl rfl).2, by first | trivial | omega, by first | trivial | omega, by first | trivial | omega, by first | trivial | omega, by first | trivial | omega⟩⟩)⟩
          · skip
            refine go_to (k := 1) (pc' := 155) (L' := [some (.inr (.inr (some 79))), some (.inl 0)]) (st' := [.inr (.inr (some 79))]) (w' := (SH, (u2 dt71 83 (((4 * (dt71 79 10)) + 2).toNat) (dt71 79 11)))) (fun _ => rfl) ?_
            refine go_call (Q' := _) rfl rfl rfl rfl rfl (sp_X6_next0_p1 L xs sio (d + 30) (u2 dt71 83 (((4 * (dt71 79 10)) + 2).toNat) (dt71 79 11)) hI90   (by first | trivial | omega) (by first | trivial | omega)) ?_
            rintro _ _ ⟨dt141, rfl, hI142, hF143, h140⟩
            refine ⟨rfl, ?_⟩
            have hF144 : Fr [79, 83, 84] dt dt141 := Fr_tr hF91 hF143 (by decide)
            rcases h140 with ⟨rfl, h140⟩
            obtain ⟨h140_0, h140_1, h140_2, h140_3, h140_4, h140_5, h140_6, h140_7, h140_8⟩ := h140
            have hq145 := h140_0
            rw [show (u2 dt71 83 (((4 * (dt71 79 10)) + 2).toNat) (dt71 79 11)) 85 = dt 85 from funext (hF91 85 (by decide)), show (u2 dt71 83 (((4 * (dt71 79 10)) + 2).toNat) (dt71 79 11)) 79 12 = dt 79 12 by omega, hbb, show (dt 79 12).toNat = n by omega] at hq145
            have hc146 : CUR 1 b n dt141 (j77 + 1) := CUR_n hc104 hq145
            have hi147 : j77 + 1 ≤ t := by omega
            have hp148 : (gLF (KF 1 b n) (VF b n) (dt 79 10)) i = (fun i => gB (gB_ (KF 1 b n) (VF b n) 8 i) (gK (KF 1 b n) 59)) (j77 + 1) := hp80.trans (by exact gL2_w (by omega))
            have cr149 := CUR_R hc146 (.inr rfl)
            have cb150 := CUR_b hc146
            have cv151 := CUR_v hc146
            have ck152 := KZ_lt (i := (j77 + 1)) hz
            have c1153 := (hc146).1
            have ci154 := hi147
            refine go_to (k := 1) (pc' := 159) (L' := [some (.inr (.inr (some 79))), some (.inl 0)]) (st' := [.inr (.inr (some 79))]) (w' := (SH, dt141)) (fun _ => rfl) ?_
            refine go_call (Q' := _) rfl rfl rfl rfl rfl (sp_X6_any_g0 L xs sio (d + 0) dt141 hI142 b n t (j77 + 1) (by first | exact hbb | (rw [show dt141 85 = dt 85 from funext (hF144 85 (by decide)), show dt141 79 12 = dt 79 12 by omega]; exact hbb)) (by omega) hz ht hc146 hi147 hn5  (by first | trivial | omega) (by first | trivial | omega) (by first | trivial | omega)) ?_
            rintro _ _ ⟨dt156, rfl, hI157, hF158, h155⟩
            refine ⟨rfl, ?_⟩
            have hF159 : Fr [79, 83, 84] dt dt156 := Fr_tr hF144 hF158 (by decide)
            rcases h155 with ⟨rfl, h155⟩ | ⟨rfl, h155⟩
            · skip
              obtain ⟨h155_0, h155_1, h155_2, h155_3, h155_4⟩ := h155
              have fl160 := RSX_0 h155_0 rfl
              have fe161 : (gLF (KF 1 b n) (VF b n) (dt 79 10)) i = (gB_ (KF 1 b n) (VF b n) 8) (j77 + 1) := hp148.trans ((show (fun i => gB (gB_ (KF 1 b n) (VF b n) 8 i) (gK (KF 1 b n) 59)) (j77 + 1) = gB ((gB_ (KF 1 b n) (VF b n) 8) (j77 + 1)) (gK (KF 1 b n) 59) by rfl).trans (gB_no fl160.1))
              refine go_ret (k := 3) (r := some (.inl 0)) (w1 := (SH, dt156)) (fun _ => rfl) ?_
              exact ⟨dt156, rfl, hI157, hF159, (Or.inl ⟨rfl, ⟨by first | exact RSX_f fe161 fl160 (by omega) (by omega) | exact RSX_no (k := 1) (j := (j77 + 1)) (hp148.trans (by show gLF _ _ _ _ = _; unfold gLF; rw [if_pos (by omega)])) (by decide) (by omega) (by show _ = ((TP b n (j77 + 1) : Nat) : Int); omega), by first | trivial | omega, by first | trivial | omega, by first | trivial | omega, by first | trivial | omega⟩⟩)⟩
            · skip
              obtain ⟨h155_0, h155_1, h155_2, h155_3, h155_4, h155_5, h155_6, h155_7, h155_8, h155_9⟩ := h155
              obtain ⟨j162, ej163, hc164⟩ := RSX_1 h155_0 (by decide)
              have hp165 : (gLF (KF 1 b n) (VF b n) (dt 79 10)) i = (gK (KF 1 b n) 59) j162 := hp148.trans ((show (fun i => gB (gB_ (KF 1 b n) (VF b n) 8 i) (gK (KF 1 b n) 59)) (j77 + 1) = gB ((gB_ (KF 1 b n) (VF b n) 8) (j77 + 1)) (gK (KF 1 b n) 59) by rfl).trans (by rw [ej163]; rfl))
              have hi166 : j162 ≤ t := by have z := gB__M (K := (KF 1 b n)) (V := (VF b n)) (d := 8) (i := (j77 + 1)) hz; rw [ej163] at z; have y := z rfl; simp only at y; omega
              have cr167 := CUR_R hc164 (.inr rfl)
              have cb168 := CUR_b hc164
              have cv169 := CUR_v hc164
              have ck170 := KZ_lt (i := j162) hz
              have c1171 := (hc164).1
              have ci172 := hi166
              have r173 : 0 ≤ dt156 79 10 ∧ dt156 79 10 ≤ 24 := InvC_get hI157 79 10 rfl rfl
              have r174 : 0 ≤ dt156 79 11 ∧ dt156 79 11 ≤ 510 := InvC_get hI157 79 11 rfl rfl
              refine go_to (k := 11) (pc' := 183) (L' := [some (.inr (.inr (some 79))), some (.inl 0)]) (st' := [.inl (dt156 79 11), .inl ((4 * (dt156 79 10)) + 3), .inr (.inr (some 83))]) (w' := (SH, dt156)) (fun _ => rfl) ?_
              have hI175 : InvC (u2 dt156 83 (((4 * (dt156 79 10)) + 3).toNat) (dt156 79 11)) := InvC_u2 hI157 (lo := -2147483648) (hi := 2147483647) rfl rfl rfl (by omega) (by omega)
              have hF176 : Fr [79, 83, 84] dt (u2 dt156 83 (((4 * (dt156 79 10)) + 3).toNat) (dt156 79 11)) := Fr_u2 hF159 (by decide)
              have w177 : (u2 dt156 83 (((4 * (dt156 79 10)) + 3).toNat) (dt156 79 11)) 79 2 = dt156 79 2 := rfl
              have w178 : (u2 dt156 83 (((4 * (dt156 79 10)) + 3).toNat) (dt156 79 11)) 79 9 = dt156 79 9 := rfl
              have w179 : (u2 dt156 83 (((4 * (dt156 79 10)) + 3).toNat) (dt156 79 11)) 79 10 = dt156 79 10 := rfl
              have w180 : (u2 dt156 83 (((4 * (dt156 79 10)) + 3).toNat) (dt156 79 11)) 79 11 = dt156 79 11 := rfl
              have w181 : (u2 dt156 83 (((4 * (dt156 79 10)) + 3).toNat) (dt156 79 11)) 79 12 = dt156 79 12 := rfl
              have w182 : (u2 dt156 83 (((4 * (dt156 79 10)) + 3).toNat) (dt156 79 11)) 79 13 = dt156 79 13 := rfl
              have w183 : (u2 dt156 83 (((4 * (dt156 79 10)) + 3).toNat) (dt156 79 11)) 79 14 = dt156 79 14 := rfl
              have w184 : (u2 dt156 83 (((4 * (dt156 79 10)) + 3).toNat) (dt156 79 11)) 79 15 = dt156 79 15 := rfl
              have w185 : (u2 dt156 83 (((4 * (dt156 79 10)) + 3).toNat) (dt156 79 11)) 79 16 = dt156 79 16 := rfl
              have w186 : (u2 dt156 83 (((4 * (dt156 79 10)) + 3).toNat) (dt156 79 11)) 79 17 = dt156 79 17 := rfl
              have w187 : (u2 dt156 83 (((4 * (dt156 79 10)) + 3).toNat) (dt156 79 11)) 79 18 = dt156 79 18 := rfl
              have w188 : (u2 dt156 83 (((4 * (dt156 79 10)) + 3).toNat) (dt156 79 11)) 79 20 = dt156 79 20 := rfl
              have hc189 : CUR 1 b n (u2 dt156 83 (((4 * (dt156 79 10)) + 3).toNat) (dt156 79 11)) j162 := CUR_sm hc164 rfl rfl rfl rfl
              refine go_smp (L' := [some (.inr (.inr (some 79))), some (.inl 0)]) (st' := []) (w' := (SH, (u2 dt156 83 (((4 * (dt156 79 10)) + 3).toNat) (dt156 79 11)))) rfl rfl (s_iast (n := 64) rfl ⟨by omega, by omega⟩ ⟨by omega, by omega⟩) ?_
              refine go_to (k := 2) (pc' := 188) (L' := [some (.inr (.inr (some 79))), some (.inl 0)]) (st' := [.inl 159, .inr (.inr (some 79))]) (w' := (SH, (u2 dt156 83 (((4 * (dt156 79 10)) + 3).toNat) (dt156 79 11)))) (fun _ => rfl) ?_
              refine go_call (Q' := _) rfl rfl rfl rfl rfl (sp_X6_need0_g1 L xs sio (d + 29) (u2 dt156 83 (((4 * (dt156 79 10)) + 3).toNat) (dt156 79 11)) hI175 b n t j162 (by first | exact hbb | (rw [show (u2 dt156 83 (((4 * (dt156 79 10)) + 3).toNat) (dt156 79 11)) 85 = dt 85 from funext (hF176 85 (by decide)), show (u2 dt156 83 (((4 * (dt156 79 10)) + 3).toNat) (dt156 79 11)) 79 12 = dt 79 12 by omega]; exact hbb)) (by omega) hz ht hc189 hi166 hn5 159 ⟨by omega, by omega⟩ (by first | trivial | omega)) ?_
              rintro _ _ ⟨dt191, rfl, hI192, hF193, h190⟩
              refine ⟨rfl, ?_⟩
              have hF194 : Fr [79, 83, 84] dt dt191 := Fr_tr hF176 hF193 (by decide)
              rcases h190 with ⟨rfl, h190⟩ | ⟨rfl, h190⟩
              · skip
                obtain ⟨h190_0, h190_1, h190_2, h190_3, h190_4⟩ := h190
                have fl195 := RSX_0 h190_0 rfl
                have fe196 : (gLF (KF 1 b n) (VF b n) (dt 79 10)) i = (gK (KF 1 b n) (159 - 100)) j162 := hp165.trans ((show (gK (KF 1 b n) 59) j162 = gB ((gK (KF 1 b n) (159 - 100)) j162) gOk by first | exact gB_id.symm | exact gL2_n (by omega)).trans (gB_no fl195.1))
                refine go_ret (k := 1) (r := some (.inl 0)) (w1 := (SH, dt191)) (fun _ => rfl) ?_
                exact ⟨dt191, rfl, hI192, hF194, (Or.inl ⟨rfl, ⟨by first | exact RSX_f fe196 fl195 (by omega) (by omega) | exact RSX_no (k := 1) (j := j162) (hp165.trans (by show gLF _ _ _ _ = _; unfold gLF; rw [if_pos (by omega)])) (by decide) (by omega) (by show _ = ((TP b n j162 : Nat) : Int); omega), by first | trivial | omega, by first | trivial | omega, by first | trivial | omega, by first | trivial | omega⟩⟩)⟩
              · skip
                obtain ⟨h190_0, h190_1, h190_2, h190_3, h190_4, h190_5, h190_6, h190_7, h190_8, h190_9⟩ := h190
                obtain ⟨j197, ej198, hc199⟩ := RSX_1 h190_0 (by decide)
                have hp200 : (gLF (KF 1 b n) (VF b n) (dt 79 10)) i = gOk j197 := hp165.trans ((show (gK (KF 1 b n) 59) j162 = gB ((gK (KF 1 b n) (159 - 100)) j162) gOk by first | exact gB_id.symm | exact gL2_n (by omega)).trans (by rw [ej198]; rfl))
                have hi201 : j197 ≤ t := by have z := (fun (h : KZ (KF 1 b n) t) => gK_M (K := (KF 1 b n)) (k := 159 - 100) (i := j162) h (by decide)) hz; rw [ej198] at z; have y := z rfl; simp only at y; omega
                have cr202 := CUR_R hc199 (.inr rfl)
                have cb203 := CUR_b hc199
                have cv204 := CUR_v hc199
                have ck205 := KZ_lt (i := j197) hz
                have c1206 := (hc199).1
                have ci207 := hi201
                refine go_ret (k := 1) (r := some (.inl 1)) (w1 := (SH, dt191)) (fun _ => rfl) ?_
                exact ⟨dt191, rfl, hI192, hF194, (Or.inr ⟨rfl, ⟨by exact RSX_ok (hp200.trans (by rfl)) hc199, by first | trivial | omega, by first | trivial | omega, by first | trivial | omega, by first | trivial | omega, by exact (InvC_get (by assumption) 79 15 rfl rfl).2, by first | trivial | omega, by first | trivial | omega, by first | trivial | omega, by first | trivial | omega, by first | trivial | omega⟩⟩)⟩
      · skip
        refine go_to (k := 5) (pc' := 56) (L' := [some (.inr (.inr (some 79))), some (.inl 1)]) (st' := [.inl 0, .inr (.inr (some 79))]) (w' := (SH, dt)) (fun _ => rfl) ?_
        have hI208 : InvC (u2 dt 79 20 0) := InvC_u2 hI (lo := 0) (hi := 8) rfl rfl rfl (by omega) (by omega)
        have hF209 : Fr [79, 83, 84] dt (u2 dt 79 20 0) := Fr_u2 hF (by decide)
        have w210 : (u2 dt 79 20 0) 79 2 = dt 79 2 := rfl
        have w211 : (u2 dt 79 20 0) 79 9 = dt 79 9 := rfl
        have w212 : (u2 dt 79 20 0) 79 10 = dt 79 10 := rfl
        have w213 : (u2 dt 79 20 0) 79 11 = dt 79 11 := rfl
        have w214 : (u2 dt 79 20 0) 79 12 = dt 79 12 := rfl
        have w215 : (u2 dt 79 20 0) 79 13 = dt 79 13 := rfl
        have w216 : (u2 dt 79 20 0) 79 14 = dt 79 14 := rfl
        have w217 : (u2 dt 79 20 0) 79 15 = dt 79 15 := rfl
        have w218 : (u2 dt 79 20 0) 79 16 = dt 79 16 := rfl
        have w219 : (u2 dt 79 20 0) 79 17 = dt 79 17 := rfl
        have w220 : (u2 dt 79 20 0) 79 18 = dt 79 18 := rfl
        have w221 : (u2 dt 79 20 0) 79 20 = 0 := rfl
        have hc222 : CUR 1 b n (u2 dt 79 20 0) i := CUR_sm hc rfl rfl rfl rfl
        refine go_smp (L' := [some (.inr (.inr (some 79))), some (.inl 1)]) (st' := []) (w' := (SH, (u2 dt 79 20 0))) rfl rfl (s_pf rfl rfl rfl rfl ⟨by omega, by omega⟩) ?_
        refine go_to (k := 1) (pc' := 60) (L' := [some (.inr (.inr (some 79))), some (.inl 1)]) (st' := [.inr (.inr (some 79))]) (w' := (SH, (u2 dt 79 20 0))) (fun _ => rfl) ?_
        refine go_call (Q' := _) rfl rfl rfl rfl rfl (sp_X6_next0_p1 L xs sio (d + 30) (u2 dt 79 20 0) hI208   (by first | trivial | omega) (by first | trivial | omega)) ?_
        rintro _ _ ⟨dt224, rfl, hI225, hF226, h223⟩
        refine ⟨rfl, ?_⟩
        have hF227 : Fr [79, 83, 84] dt dt224 := Fr_tr hF209 hF226 (by decide)
        rcases h223 with ⟨rfl, h223⟩
        obtain ⟨h223_0, h223_1, h223_2, h223_3, h223_4, h223_5, h223_6, h223_7, h223_8⟩ := h223
        have hq228 := h223_0
        rw [show (u2 dt 79 20 0) 85 = dt 85 from funext (hF209 85 (by decide)), show (u2 dt 79 20 0) 79 12 = dt 79 12 by omega, hbb, show (dt 79 12).toNat = n by omega] at hq228
        have hc229 : CUR 1 b n dt224 (i + 1) := CUR_n hc222 hq228
        have hi230 : i + 1 ≤ t := by omega
        have hp231 : (gLF (KF 1 b n) (VF b n) (dt 79 10)) i = (fun i => gB (gA (KF 1 b n) (VF b n) 7 i) (gL1 (KF 1 b n) (VF b n))) (i + 1) := (rfl : (gLF (KF 1 b n) (VF b n) (dt 79 10)) i = (gLF (KF 1 b n) (VF b n) (dt 79 10)) i).trans (by show gLF _ _ _ _ = _; unfold gLF; rw [if_neg (by omega), if_neg (by omega)]; exact gLine_r (by omega))
        have cr232 := CUR_R hc229 (.inr rfl)
        have cb233 := CUR_b hc229
        have cv234 := CUR_v hc229
        have ck235 := KZ_lt (i := (i + 1)) hz
        have c1236 := (hc229).1
        have ci237 := hi230
        have r238 : 0 ≤ dt224 79 10 ∧ dt224 79 10 ≤ 24 := InvC_get hI225 79 10 rfl rfl
        have r239 : 0 ≤ dt224 79 16 ∧ dt224 79 16 ≤ 9999 := InvC_get hI225 79 16 rfl rfl
        refine go_to (k := 11) (pc' := 86) (L' := [some (.inr (.inr (some 79))), some (.inl 1)]) (st' := [.inl (dt224 79 16), .inl (4 * (dt224 79 10)), .inr (.inr (some 83))]) (w' := (SH, dt224)) (fun _ => rfl) ?_
        have hI240 : InvC (u2 dt224 83 ((4 * (dt224 79 10)).toNat) (dt224 79 16)) := InvC_u2 hI225 (lo := -2147483648) (hi := 2147483647) rfl rfl rfl (by omega) (by omega)
        have hF241 : Fr [79, 83, 84] dt (u2 dt224 83 ((4 * (dt224 79 10)).toNat) (dt224 79 16)) := Fr_u2 hF227 (by decide)
        have w242 : (u2 dt224 83 ((4 * (dt224 79 10)).toNat) (dt224 79 16)) 79 2 = dt224 79 2 := rfl
        have w243 : (u2 dt224 83 ((4 * (dt224 79 10)).toNat) (dt224 79 16)) 79 9 = dt224 79 9 := rfl
        have w244 : (u2 dt224 83 ((4 * (dt224 79 10)).toNat) (dt224 79 16)) 79 10 = dt224 79 10 := rfl
        have w245 : (u2 dt224 83 ((4 * (dt224 79 10)).toNat) (dt224 79 16)) 79 11 = dt224 79 11 := rfl
        have w246 : (u2 dt224 83 ((4 * (dt224 79 10)).toNat) (dt224 79 16)) 79 12 = dt224 79 12 := rfl
        have w247 : (u2 dt224 83 ((4 * (dt224 79 10)).toNat) (dt224 79 16)) 79 13 = dt224 79 13 := rfl
        have w248 : (u2 dt224 83 ((4 * (dt224 79 10)).toNat) (dt224 79 16)) 79 14 = dt224 79 14 := rfl
        have w249 : (u2 dt224 83 ((4 * (dt224 79 10)).toNat) (dt224 79 16)) 79 15 = dt224 79 15 := rfl
        have w250 : (u2 dt224 83 ((4 * (dt224 79 10)).toNat) (dt224 79 16)) 79 16 = dt224 79 16 := rfl
        have w251 : (u2 dt224 83 ((4 * (dt224 79 10)).toNat) (dt224 79 16)) 79 17 = dt224 79 17 := rfl
        have w252 : (u2 dt224 83 ((4 * (dt224 79 10)).toNat) (dt224 79 16)) 79 18 = dt224 79 18 := rfl
        have w253 : (u2 dt224 83 ((4 * (dt224 79 10)).toNat) (dt224 79 16)) 79 20 = dt224 79 20 := rfl
        have hc254 : CUR 1 b n (u2 dt224 83 ((4 * (dt224 79 10)).toNat) (dt224 79 16)) (i + 1) := CUR_sm hc229 rfl rfl rfl rfl
        refine go_smp (L' := [some (.inr (.inr (some 79))), some (.inl 1)]) (st' := []) (w' := (SH, (u2 dt224 83 ((4 * (dt224 79 10)).toNat) (dt224 79 16)))) rfl rfl (s_iast (n := 64) rfl ⟨by omega, by omega⟩ ⟨by omega, by omega⟩) ?_
        refine go_to (k := 5) (pc' := 95) (L' := [some (.inr (.inr (some 79))), some (.inl 1)]) (st' := [.inl 7, .inl 0, .inr (.inr (some 79))]) (w' := (SH, (u2 dt224 83 ((4 * (dt224 79 10)).toNat) (dt224 79 16)))) (fun _ => rfl) ?_
        refine go_call (Q' := _) rfl rfl rfl rfl rfl (sp_X6_number_g1a L xs sio (d + 29) (u2 dt224 83 ((4 * (dt224 79 10)).toNat) (dt224 79 16)) hI240 b n t (i + 1) (by first | exact hbb | (rw [show (u2 dt224 83 ((4 * (dt224 79 10)).toNat) (dt224 79 16)) 85 = dt 85 from funext (hF241 85 (by decide)), show (u2 dt224 83 ((4 * (dt224 79 10)).toNat) (dt224 79 16)) 79 12 = dt 79 12 by omega]; exact hbb)) (by omega) hz ht hc254 hi230 hn5 7 ⟨by omega, by omega⟩ (by first | trivial | omega)) ?_
        rintro _ _ ⟨dt256, rfl, hI257, hF258, h255⟩
        refine ⟨rfl, ?_⟩
        have hF259 : Fr [79, 83, 84] dt dt256 := Fr_tr hF241 hF258 (by decide)
        rcases h255 with ⟨rfl, h255⟩ | ⟨rfl, h255⟩
        · skip
          obtain ⟨h255_0, h255_1, h255_2, h255_3, h255_4⟩ := h255
          have fl260 := RSX_0 h255_0 rfl
          have fe261 : (gLF (KF 1 b n) (VF b n) (dt 79 10)) i = (gA (KF 1 b n) (VF b n) 7) (i + 1) := hp231.trans ((show (fun i => gB (gA (KF 1 b n) (VF b n) 7 i) (gL1 (KF 1 b n) (VF b n))) (i + 1) = gB ((gA (KF 1 b n) (VF b n) 7) (i + 1)) (gL1 (KF 1 b n) (VF b n)) by rfl).trans (gB_no fl260.1))
          refine go_ret (k := 3) (r := some (.inl 0)) (w1 := (SH, dt256)) (fun _ => rfl) ?_
          exact ⟨dt256, rfl, hI257, hF259, (Or.inl ⟨rfl, ⟨by first | exact RSX_f fe261 fl260 (by omega) (by omega) | exact RSX_no (k := 1) (j := (i + 1)) (hp231.trans (by show gLF _ _ _ _ = _; unfold gLF; rw [if_pos (by omega)])) (by decide) (by omega) (by show _ = ((TP b n (i + 1) : Nat) : Int); omega), by first | trivial | omega, by first | trivial | omega, by first | trivial | omega, by first | trivial | omega⟩⟩)⟩
        · skip
          obtain ⟨h255_0, h255_1, h255_2, h255_3, h255_4, h255_5, h255_6, h255_7, h255_8, h255_9, h255_10⟩ := h255
          obtain ⟨j262, ej263, hc264⟩ := RSX_1 h255_0 (by decide)
          have hp265 : (gLF (KF 1 b n) (VF b n) (dt 79 10)) i = (gL1 (KF 1 b n) (VF b n)) j262 := hp231.trans ((show (fun i => gB (gA (KF 1 b n) (VF b n) 7 i) (gL1 (KF 1 b n) (VF b n))) (i + 1) = gB ((gA (KF 1 b n) (VF b n) 7) (i + 1)) (gL1 (KF 1 b n) (VF b n)) by rfl).trans (by rw [ej263]; rfl))
          have hi266 : j262 ≤ t := by have z := gA_M (K := (KF 1 b n)) (V := (VF b n)) (m := 7) (i := (i + 1)) hz; rw [ej263] at z; have y := z rfl; simp only at y; omega
          have cr267 := CUR_R hc264 (.inr rfl)
          have cb268 := CUR_b hc264
          have cv269 := CUR_v hc264
          have ck270 := KZ_lt (i := j262) hz
          have c1271 := (hc264).1
          have ci272 := hi266
          have r273 : 0 ≤ dt256 79 10 ∧ dt256 79 10 ≤ 24 := InvC_get hI257 79 10 rfl rfl
          have r274 : 0 ≤ dt256 79 11 ∧ dt256 79 11 ≤ 510 := InvC_get hI257 79 11 rfl rfl
          refine go_to (k := 11) (pc' := 119) (L' := [some (.inr (.inr (some 79))), some (.inl 1)]) (st' := [.inl (dt256 79 11), .inl ((4 * (dt256 79 10)) + 1), .inr (.inr (some 83))]) (w' := (SH, dt256)) (fun _ => rfl) ?_
          have hI275 : InvC (u2 dt256 83 (((4 * (dt256 79 10)) + 1).toNat) (dt256 79 11)) := InvC_u2 hI257 (lo := -2147483648) (hi := 2147483647) rfl rfl rfl (by omega) (by omega)
          have hF276 : Fr [79, 83, 84] dt (u2 dt256 83 (((4 * (dt256 79 10)) + 1).toNat) (dt256 79 11)) := Fr_u2 hF259 (by decide)
          have w277 : (u2 dt256 83 (((4 * (dt256 79 10)) + 1).toNat) (dt256 79 11)) 79 2 = dt256 79 2 := rfl
          have w278 : (u2 dt256 83 (((4 * (dt256 79 10)) + 1).toNat) (dt256 79 11)) 79 9 = dt256 79 9 := rfl
          have w279 : (u2 dt256 83 (((4 * (dt256 79 10)) + 1).toNat) (dt256 79 11)) 79 10 = dt256 79 10 := rfl
          have w280 : (u2 dt256 83 (((4 * (dt256 79 10)) + 1).toNat) (dt256 79 11)) 79 11 = dt256 79 11 := rfl
          have w281 : (u2 dt256 83 (((4 * (dt256 79 10)) + 1).toNat) (dt256 79 11)) 79 12 = dt256 79 12 := rfl
          have w282 : (u2 dt256 83 (((4 * (dt256 79 10)) + 1).toNat) (dt256 79 11)) 79 13 = dt256 79 13 := rfl
          have w283 : (u2 dt256 83 (((4 * (dt256 79 10)) + 1).toNat) (dt256 79 11)) 79 14 = dt256 79 14 := rfl
          have w284 : (u2 dt256 83 (((4 * (dt256 79 10)) + 1).toNat) (dt256 79 11)) 79 15 = dt256 79 15 := rfl
          have w285 : (u2 dt256 83 (((4 * (dt256 79 10)) + 1).toNat) (dt256 79 11)) 79 16 = dt256 79 16 := rfl
          have w286 : (u2 dt256 83 (((4 * (dt256 79 10)) + 1).toNat) (dt256 79 11)) 79 17 = dt256 79 17 := rfl
          have w287 : (u2 dt256 83 (((4 * (dt256 79 10)) + 1).toNat) (dt256 79 11)) 79 18 = dt256 79 18 := rfl
          have w288 : (u2 dt256 83 (((4 * (dt256 79 10)) + 1).toNat) (dt256 79 11)) 79 20 = dt256 79 20 := rfl
          have hc289 : CUR 1 b n (u2 dt256 83 (((4 * (dt256 79 10)) + 1).toNat) (dt256 79 11)) j262 := CUR_sm hc264 rfl rfl rfl rfl
          refine go_smp (L' := [some (.inr (.inr (some 79))), some (.inl 1)]) (st' := []) (w' := (SH, (u2 dt256 83 (((4 * (dt256 79 10)) + 1).toNat) (dt256 79 11)))) rfl rfl (s_iast (n := 64) rfl ⟨by omega, by omega⟩ ⟨by omega, by omega⟩) ?_
          refine go_to (k := 1) (pc' := 121) (L' := [some (.inr (.inr (some 79))), some (.inl 1)]) (st' := [.inr (.inr (some 79))]) (w' := (SH, (u2 dt256 83 (((4 * (dt256 79 10)) + 1).toNat) (dt256 79 11)))) (fun _ => rfl) ?_
          refine go_call (Q' := _) rfl rfl rfl rfl rfl (sp_X6_sumUp_g L xs sio (d + 27) (u2 dt256 83 (((4 * (dt256 79 10)) + 1).toNat) (dt256 79 11)) hI275 b n t j262 (by first | exact hbb | (rw [show (u2 dt256 83 (((4 * (dt256 79 10)) + 1).toNat) (dt256 79 11)) 85 = dt 85 from funext (hF276 85 (by decide)), show (u2 dt256 83 (((4 * (dt256 79 10)) + 1).toNat) (dt256 79 11)) 79 12 = dt 79 12 by omega]; exact hbb)) (by omega) hz ht hc289 hi266 hn5  (by first | trivial | omega) (by first | trivial | omega)) ?_
          rintro _ _ ⟨dt291, rfl, hI292, hF293, h290⟩
          refine ⟨rfl, ?_⟩
          have hF294 : Fr [79, 83, 84] dt dt291 := Fr_tr hF276 hF293 (by decide)
          rcases h290 with ⟨rfl, h290⟩ | ⟨rfl, h290⟩
          · skip
            obtain ⟨h290_0, h290_1, h290_2, h290_3, h290_4⟩ := h290
            have fl295 := RSX_0 h290_0 rfl
            have fe296 : (gLF (KF 1 b n) (VF b n) (dt 79 10)) i = (gE (KF 1 b n) (VF b n)) j262 := hp265.trans ((show (gL1 (KF 1 b n) (VF b n)) j262 = gB ((gE (KF 1 b n) (VF b n)) j262) (gL2 (KF 1 b n) (VF b n)) by rfl).trans (gB_no fl295.1))
            refine go_ret (k := 3) (r := some (.inl 0)) (w1 := (SH, dt291)) (fun _ => rfl) ?_
            exact ⟨dt291, rfl, hI292, hF294, (Or.inl ⟨rfl, ⟨by first | exact RSX_f fe296 fl295 (by omega) (by omega) | exact RSX_no (k := 1) (j := j262) (hp265.trans (by show gLF _ _ _ _ = _; unfold gLF; rw [if_pos (by omega)])) (by decide) (by omega) (by show _ = ((TP b n j262 : Nat) : Int); omega), by first | trivial | omega, by first | trivial | omega, by first | trivial | omega, by first | trivial | omega⟩⟩)⟩
          · skip
            obtain ⟨h290_0, h290_1, h290_2, h290_3, h290_4, h290_5, h290_6, h290_7, h290_8, h290_9⟩ := h290
            obtain ⟨j297, ej298, hc299⟩ := RSX_1 h290_0 (by decide)
            have hp300 : (gLF (KF 1 b n) (VF b n) (dt 79 10)) i = (gL2 (KF 1 b n) (VF b n)) j297 := hp265.trans ((show (gL1 (KF 1 b n) (VF b n)) j262 = gB ((gE (KF 1 b n) (VF b n)) j262) (gL2 (KF 1 b n) (VF b n)) by rfl).trans (by rw [ej298]; rfl))
            have hi301 : j297 ≤ t := by have z := gE_M (K := (KF 1 b n)) (V := (VF b n)) (i := j262) hz; rw [ej298] at z; have y := z rfl; simp only at y; omega
            have cr302 := CUR_R hc299 (.inr rfl)
            have cb303 := CUR_b hc299
            have cv304 := CUR_v hc299
            have ck305 := KZ_lt (i := j297) hz
            have c1306 := (hc299).1
            have ci307 := hi301
            have r308 : 0 ≤ dt291 79 10 ∧ dt291 79 10 ≤ 24 := InvC_get hI292 79 10 rfl rfl
            have r309 : 0 ≤ dt291 79 11 ∧ dt291 79 11 ≤ 510 := InvC_get hI292 79 11 rfl rfl
            refine go_to (k := 11) (pc' := 145) (L' := [some (.inr (.inr (some 79))), some (.inl 1)]) (st' := [.inl (dt291 79 11), .inl ((4 * (dt291 79 10)) + 2), .inr (.inr (some 83))]) (w' := (SH, dt291)) (fun _ => rfl) ?_
            have hI310 : InvC (u2 dt291 83 (((4 * (dt291 79 10)) + 2).toNat) (dt291 79 11)) := InvC_u2 hI292 (lo := -2147483648) (hi := 2147483647) rfl rfl rfl (by omega) (by omega)
            have hF311 : Fr [79, 83, 84] dt (u2 dt291 83 (((4 * (dt291 79 10)) + 2).toNat) (dt291 79 11)) := Fr_u2 hF294 (by decide)
            have w312 : (u2 dt291 83 (((4 * (dt291 79 10)) + 2).toNat) (dt291 79 11)) 79 2 = dt291 79 2 := rfl
            have w313 : (u2 dt291 83 (((4 * (dt291 79 10)) + 2).toNat) (dt291 79 11)) 79 9 = dt291 79 9 := rfl
            have w314 : (u2 dt291 83 (((4 * (dt291 79 10)) + 2).toNat) (dt291 79 11)) 79 10 = dt291 79 10 := rfl
            have w315 : (u2 dt291 83 (((4 * (dt291 79 10)) + 2).toNat) (dt291 79 11)) 79 11 = dt291 79 11 := rfl
            have w316 : (u2 dt291 83 (((4 * (dt291 79 10)) + 2).toNat) (dt291 79 11)) 79 12 = dt291 79 12 := rfl
            have w317 : (u2 dt291 83 (((4 * (dt291 79 10)) + 2).toNat) (dt291 79 11)) 79 13 = dt291 79 13 := rfl
            have w318 : (u2 dt291 83 (((4 * (dt291 79 10)) + 2).toNat) (dt291 79 11)) 79 14 = dt291 79 14 := rfl
            have w319 : (u2 dt291 83 (((4 * (dt291 79 10)) + 2).toNat) (dt291 79 11)) 79 15 = dt291 79 15 := rfl
            have w320 : (u2 dt291 83 (((4 * (dt291 79 10)) + 2).toNat) (dt291 79 11)) 79 16 = dt291 79 16 := rfl
            have w321 : (u2 dt291 83 (((4 * (dt291 79 10)) + 2).toNat) (dt291 79 11)) 79 17 = dt291 79 17 := rfl
            have w322 : (u2 dt291 83 (((4 * (dt291 79 10)) + 2).toNat) (dt291 79 11)) 79 18 = dt291 79 18 := rfl
            have w323 : (u2 dt291 83 (((4 * (dt291 79 10)) + 2).toNat) (dt291 79 11)) 79 20 = dt291 79 20 := rfl
            have hc324 : CUR 1 b n (u2 dt291 83 (((4 * (dt291 79 10)) + 2).toNat) (dt291 79 11)) j297 := CUR_sm hc299 rfl rfl rfl rfl
            refine go_smp (L' := [some (.inr (.inr (some 79))), some (.inl 1)]) (st' := []) (w' := (SH, (u2 dt291 83 (((4 * (dt291 79 10)) + 2).toNat) (dt291 79 11)))) rfl rfl (s_iast (n := 64) rfl ⟨by omega, by omega⟩ ⟨by omega, by omega⟩) ?_
            have r325 : (-2147483648) ≤ dt291 79 14 ∧ dt291 79 14 ≤ 2147483647 := InvC_get hI292 79 14 rfl rfl
            refine go_if (k := 4) (p1 := 167) (p2 := 154) (L' := [some (.inr (.inr (some 79))), some (.inl 1)]) (st' := []) (w' := (SH, (u2 dt291 83 (((4 * (dt291 79 10)) + 2).toNat) (dt291 79 11)))) (fun _ => rfl) (c_ne (a := dt291 79 14) (b := 3) ⟨by omega, by omega⟩ ⟨by omega, by omega⟩) (fun c326 => ?_) (fun c326 => ?_)
            · skip
              refine go_to (k := 10) (pc' := 183) (L' := [some (.inr (.inr (some 79))), some (.inl 1)]) (st' := [.inl (dt291 79 11), .inl ((4 * (dt291 79 10)) + 3), .inr (.inr (some 83))]) (w' := (SH, (u2 dt291 83 (((4 * (dt291 79 10)) + 2).toNat) (dt291 79 11)))) (fun _ => rfl) ?_
              have hI327 : InvC (u2 (u2 dt291 83 (((4 * (dt291 79 10)) + 2).toNat) (dt291 79 11)) 83 (((4 * (dt291 79 10)) + 3).toNat) (dt291 79 11)) := InvC_u2 hI310 (lo := -2147483648) (hi := 2147483647) rfl rfl rfl (by omega) (by omega)
              have hF328 : Fr [79, 83, 84] dt (u2 (u2 dt291 83 (((4 * (dt291 79 10)) + 2).toNat) (dt291 79 11)) 83 (((4 * (dt291 79 10)) + 3).toNat) (dt291 79 11)) := Fr_u2 hF311 (by decide)
              have w329 : (u2 (u2 dt291 83 (((4 * (dt291 79 10)) + 2).toNat) (dt291 79 11)) 83 (((4 * (dt291 79 10)) + 3).toNat) (dt291 79 11)) 79 2 = (u2 dt291 83 (((4 * (dt291 79 10)) + 2).toNat) (dt291 79 11)) 79 2 := rfl
              have w330 : (u2 (u2 dt291 83 (((4 * (dt291 79 10)) + 2).toNat) (dt291 79 11)) 83 (((4 * (dt291 79 10)) + 3).toNat) (dt291 79 11)) 79 9 = (u2 dt291 83 (((4 * (dt291 79 10)) + 2).toNat) (dt291 79 11)) 79 9 := rfl
              have w331 : (u2 (u2 dt291 83 (((4 * (dt291 79 10)) + 2).toNat) (dt291 79 11)) 83 (((4 * (dt291 79 10)) + 3).toNat) (dt291 79 11)) 79 10 = (u2 dt291 83 (((4 * (dt291 79 10)) + 2).toNat) (dt291 79 11)) 79 10 := rfl
              have w332 : (u2 (u2 dt291 83 (((4 * (dt291 79 10)) + 2).toNat) (dt291 79 11)) 83 (((4 * (dt291 79 10)) + 3).toNat) (dt291 79 11)) 79 11 = (u2 dt291 83 (((4 * (dt291 79 10)) + 2).toNat) (dt291 79 11)) 79 11 := rfl
              have w333 : (u2 (u2 dt291 83 (((4 * (dt291 79 10)) + 2).toNat) (dt291 79 11)) 83 (((4 * (dt291 79 10)) + 3).toNat) (dt291 79 11)) 79 12 = (u2 dt291 83 (((4 * (dt291 79 10)) + 2).toNat) (dt291 79 11)) 79 12 := rfl
              have w334 : (u2 (u2 dt291 83 (((4 * (dt291 79 10)) + 2).toNat) (dt291 79 11)) 83 (((4 * (dt291 79 10)) + 3).toNat) (dt291 79 11)) 79 13 = (u2 dt291 83 (((4 * (dt291 79 10)) + 2).toNat) (dt291 79 11)) 79 13 := rfl
              have w335 : (u2 (u2 dt291 83 (((4 * (dt291 79 10)) + 2).toNat) (dt291 79 11)) 83 (((4 * (dt291 79 10)) + 3).toNat) (dt291 79 11)) 79 14 = (u2 dt291 83 (((4 * (dt291 79 10)) + 2).toNat) (dt291 79 11)) 79 14 := rfl
              have w336 : (u2 (u2 dt291 83 (((4 * (dt291 79 10)) + 2).toNat) (dt291 79 11)) 83 (((4 * (dt291 79 10)) + 3).toNat) (dt291 79 11)) 79 15 = (u2 dt291 83 (((4 * (dt291 79 10)) + 2).toNat) (dt291 79 11)) 79 15 := rfl
              have w337 : (u2 (u2 dt291 83 (((4 * (dt291 79 10)) + 2).toNat) (dt291 79 11)) 83 (((4 * (dt291 79 10)) + 3).toNat) (dt291 79 11)) 79 16 = (u2 dt291 83 (((4 * (dt291 79 10)) + 2).toNat) (dt291 79 11)) 79 16 := rfl
              have w338 : (u2 (u2 dt291 83 (((4 * (dt291 79 10)) + 2).toNat) (dt291 79 11)) 83 (((4 * (dt291 79 10)) + 3).toNat) (dt291 79 11)) 79 17 = (u2 dt291 83 (((4 * (dt291 79 10)) + 2).toNat) (dt291 79 11)) 79 17 := rfl
              have w339 : (u2 (u2 dt291 83 (((4 * (dt291 79 10)) + 2).toNat) (dt291 79 11)) 83 (((4 * (dt291 79 10)) + 3).toNat) (dt291 79 11)) 79 18 = (u2 dt291 83 (((4 * (dt291 79 10)) + 2).toNat) (dt291 79 11)) 79 18 := rfl
              have w340 : (u2 (u2 dt291 83 (((4 * (dt291 79 10)) + 2).toNat) (dt291 79 11)) 83 (((4 * (dt291 79 10)) + 3).toNat) (dt291 79 11)) 79 20 = (u2 dt291 83 (((4 * (dt291 79 10)) + 2).toNat) (dt291 79 11)) 79 20 := rfl
              have hc341 : CUR 1 b n (u2 (u2 dt291 83 (((4 * (dt291 79 10)) + 2).toNat) (dt291 79 11)) 83 (((4 * (dt291 79 10)) + 3).toNat) (dt291 79 11)) j297 := CUR_sm hc324 rfl rfl rfl rfl
              refine go_smp (L' := [some (.inr (.inr (some 79))), some (.inl 1)]) (st' := []) (w' := (SH, (u2 (u2 dt291 83 (((4 * (dt291 79 10)) + 2).toNat) (dt291 79 11)) 83 (((4 * (dt291 79 10)) + 3).toNat) (dt291 79 11)))) rfl rfl (s_iast (n := 64) rfl ⟨by omega, by omega⟩ ⟨by omega, by omega⟩) ?_
              refine go_to (k := 2) (pc' := 188) (L' := [some (.inr (.inr (some 79))), some (.inl 1)]) (st' := [.inl 159, .inr (.inr (some 79))]) (w' := (SH, (u2 (u2 dt291 83 (((4 * (dt291 79 10)) + 2).toNat) (dt291 79 11)) 83 (((4 * (dt291 79 10)) + 3).toNat) (dt291 79 11)))) (fun _ => rfl) ?_
              refine go_call (Q' := _) rfl rfl rfl rfl rfl (sp_X6_need0_g1 L xs sio (d + 29) (u2 (u2 dt291 83 (((4 * (dt291 79 10)) + 2).toNat) (dt291 79 11)) 83 (((4 * (dt291 79 10)) + 3).toNat) (dt291 79 11)) hI327 b n t j297 (by first | exact hbb | (rw [show (u2 (u2 dt291 83 (((4 * (dt291 79 10)) + 2).toNat) (dt291 79 11)) 83 (((4 * (dt291 79 10)) + 3).toNat) (dt291 79 11)) 85 = dt 85 from funext (hF328 85 (by decide)), show (u2 (u2 dt291 83 (((4 * (dt291 79 10)) + 2).toNat) (dt291 79 11)) 83 (((4 * (dt291 79 10)) + 3).toNat) (dt291 79 11)) 79 12 = dt 79 12 by omega]; exact hbb)) (by omega) hz ht hc341 hi301 hn5 159 ⟨by omega, by omega⟩ (by first | trivial | omega)) ?_
              rintro _ _ ⟨dt343, rfl, hI344, hF345, h342⟩
              refine ⟨rfl, ?_⟩
              have hF346 : Fr [79, 83, 84] dt dt343 := Fr_tr hF328 hF345 (by decide)
              rcases h342 with ⟨rfl, h342⟩ | ⟨rfl, h342⟩
              · skip
                obtain ⟨h342_0, h342_1, h342_2, h342_3, h342_4⟩ := h342
                have fl347 := RSX_0 h342_0 rfl
                have fe348 : (gLF (KF 1 b n) (VF b n) (dt 79 10)) i = (gK (KF 1 b n) (159 - 100)) j297 := hp300.trans ((show (gL2 (KF 1 b n) (VF b n)) j297 = gB ((gK (KF 1 b n) (159 - 100)) j297) gOk by first | exact gB_id.symm | exact gL2_n (by omega)).trans (gB_no fl347.1))
                refine go_ret (k := 1) (r := some (.inl 0)) (w1 := (SH, dt343)) (fun _ => rfl) ?_
                exact ⟨dt343, rfl, hI344, hF346, (Or.inl ⟨rfl, ⟨by first | exact RSX_f fe348 fl347 (by omega) (by omega) | exact RSX_no (k := 1) (j := j297) (hp300.trans (by show gLF _ _ _ _ = _; unfold gLF; rw [if_pos (by omega)])) (by decide) (by omega) (by show _ = ((TP b n j297 : Nat) : Int); omega), by first | trivial | omega, by first | trivial | omega, by first | trivial | omega, by first | trivial | omega⟩⟩)⟩
              · skip
                obtain ⟨h342_0, h342_1, h342_2, h342_3, h342_4, h342_5, h342_6, h342_7, h342_8, h342_9⟩ := h342
                obtain ⟨j349, ej350, hc351⟩ := RSX_1 h342_0 (by decide)
                have hp352 : (gLF (KF 1 b n) (VF b n) (dt 79 10)) i = gOk j349 := hp300.trans ((show (gL2 (KF 1 b n) (VF b n)) j297 = gB ((gK (KF 1 b n) (159 - 100)) j297) gOk by first | exact gB_id.symm | exact gL2_n (by omega)).trans (by rw [ej350]; rfl))
                have hi353 : j349 ≤ t := by have z := (fun (h : KZ (KF 1 b n) t) => gK_M (K := (KF 1 b n)) (k := 159 - 100) (i := j297) h (by decide)) hz; rw [ej350] at z; have y := z rfl; simp only at y; omega
                have cr354 := CUR_R hc351 (.inr rfl)
                have cb355 := CUR_b hc351
                have cv356 := CUR_v hc351
                have ck357 := KZ_lt (i := j349) hz
                have c1358 := (hc351).1
                have ci359 := hi353
                refine go_ret (k := 1) (r := some (.inl 1)) (w1 := (SH, dt343)) (fun _ => rfl) ?_
                exact ⟨dt343, rfl, hI344, hF346, (Or.inr ⟨rfl, ⟨by exact RSX_ok (hp352.trans (by rfl)) hc351, by first | trivial | omega, by first | trivial | omega, by first | trivial | omega, by first | trivial | omega, by exact (InvC_get (by assumption) 79 15 rfl rfl).2, by first | trivial | omega, by first | trivial | omega, by first | trivial | omega, by first | trivial | omega, by first | trivial | omega⟩⟩)⟩
            · skip
              refine go_to (k := 1) (pc' := 155) (L' := [some (.inr (.inr (some 79))), some (.inl 1)]) (st' := [.inr (.inr (some 79))]) (w' := (SH, (u2 dt291 83 (((4 * (dt291 79 10)) + 2).toNat) (dt291 79 11)))) (fun _ => rfl) ?_
              refine go_call (Q' := _) rfl rfl rfl rfl rfl (sp_X6_next0_p1 L xs sio (d + 30) (u2 dt291 83 (((4 * (dt291 79 10)) + 2).toNat) (dt291 79 11)) hI310   (by first | trivial | omega) (by first | trivial | omega)) ?_
              rintro _ _ ⟨dt361, rfl, hI362, hF363, h360⟩
              refine ⟨rfl, ?_⟩
              have hF364 : Fr [79, 83, 84] dt dt361 := Fr_tr hF311 hF363 (by decide)
              rcases h360 with ⟨rfl, h360⟩
              obtain ⟨h360_0, h360_1, h360_2, h360_3, h360_4, h360_5, h360_6, h360_7, h360_8⟩ := h360
              have hq365 := h360_0
              rw [show (u2 dt291 83 (((4 * (dt291 79 10)) + 2).toNat) (dt291 79 11)) 85 = dt 85 from funext (hF311 85 (by decide)), show (u2 dt291 83 (((4 * (dt291 79 10)) + 2).toNat) (dt291 79 11)) 79 12 = dt 79 12 by omega, hbb, show (dt 79 12).toNat = n by omega] at hq365
              have hc366 : CUR 1 b n dt361 (j297 + 1) := CUR_n hc324 hq365
              have hi367 : j297 + 1 ≤ t := by omega
              have hp368 : (gLF (KF 1 b n) (VF b n) (dt 79 10)) i = (fun i => gB (gB_ (KF 1 b n) (VF b n) 8 i) (gK (KF 1 b n) 59)) (j297 + 1) := hp300.trans (by exact gL2_w (by omega))
              have cr369 := CUR_R hc366 (.inr rfl)
              have cb370 := CUR_b hc366
              have cv371 := CUR_v hc366
              have ck372 := KZ_lt (i := (j297 + 1)) hz
              have c1373 := (hc366).1
              have ci374 := hi367
              refine go_to (k := 1) (pc' := 159) (L' := [some (.inr (.inr (some 79))), some (.inl 1)]) (st' := [.inr (.inr (some 79))]) (w' := (SH, dt361)) (fun _ => rfl) ?_
              refine go_call (Q' := _) rfl rfl rfl rfl rfl (sp_X6_any_g0 L xs sio (d + 0) dt361 hI362 b n t (j297 + 1) (by first | exact hbb | (rw [show dt361 85 = dt 85 from funext (hF364 85 (by decide)), show dt361 79 12 = dt 79 12 by omega]; exact hbb)) (by omega) hz ht hc366 hi367 hn5  (by first | trivial | omega) (by first | trivial | omega) (by first | trivial | omega)) ?_
              rintro _ _ ⟨dt376, rfl, hI377, hF378, h375⟩
              refine ⟨rfl, ?_⟩
              have hF379 : Fr [79, 83, 84] dt dt376 := Fr_tr hF364 hF378 (by decide)
              rcases h375 with ⟨rfl, h375⟩ | ⟨rfl, h375⟩
              · skip
                obtain ⟨h375_0, h375_1, h375_2, h375_3, h375_4⟩ := h375
                have fl380 := RSX_0 h375_0 rfl
                have fe381 : (gLF (KF 1 b n) (VF b n) (dt 79 10)) i = (gB_ (KF 1 b n) (VF b n) 8) (j297 + 1) := hp368.trans ((show (fun i => gB (gB_ (KF 1 b n) (VF b n) 8 i) (gK (KF 1 b n) 59)) (j297 + 1) = gB ((gB_ (KF 1 b n) (VF b n) 8) (j297 + 1)) (gK (KF 1 b n) 59) by rfl).trans (gB_no fl380.1))
                refine go_ret (k := 3) (r := some (.inl 0)) (w1 := (SH, dt376)) (fun _ => rfl) ?_
                exact ⟨dt376, rfl, hI377, hF379, (Or.inl ⟨rfl, ⟨by first | exact RSX_f fe381 fl380 (by omega) (by omega) | exact RSX_no (k := 1) (j := (j297 + 1)) (hp368.trans (by show gLF _ _ _ _ = _; unfold gLF; rw [if_pos (by omega)])) (by decide) (by omega) (by show _ = ((TP b n (j297 + 1) : Nat) : Int); omega), by first | trivial | omega, by first | trivial | omega, by first | trivial | omega, by first | trivial | omega⟩⟩)⟩
              · skip
                obtain ⟨h375_0, h375_1, h375_2, h375_3, h375_4, h375_5, h375_6, h375_7, h375_8, h375_9⟩ := h375
                obtain ⟨j382, ej383, hc384⟩ := RSX_1 h375_0 (by decide)
                have hp385 : (gLF (KF 1 b n) (VF b n) (dt 79 10)) i = (gK (KF 1 b n) 59) j382 := hp368.trans ((show (fun i => gB (gB_ (KF 1 b n) (VF b n) 8 i) (gK (KF 1 b n) 59)) (j297 + 1) = gB ((gB_ (KF 1 b n) (VF b n) 8) (j297 + 1)) (gK (KF 1 b n) 59) by rfl).trans (by rw [ej383]; rfl))
                have hi386 : j382 ≤ t := by have z := gB__M (K := (KF 1 b n)) (V := (VF b n)) (d := 8) (i := (j297 + 1)) hz; rw [ej383] at z; have y := z rfl; simp only at y; omega
                have cr387 := CUR_R hc384 (.inr rfl)
                have cb388 := CUR_b hc384
                have cv389 := CUR_v hc384
                have ck390 := KZ_lt (i := j382) hz
                have c1391 := (hc384).1
                have ci392 := hi386
                have r393 : 0 ≤ dt376 79 10 ∧ dt376 79 10 ≤ 24 := InvC_get hI377 79 10 rfl rfl
                have r394 : 0 ≤ dt376 79 11 ∧ dt376 79 11 ≤ 510 := InvC_get hI377 79 11 rfl rfl
                refine go_to (k := 11) (pc' := 183) (L' := [some (.inr (.inr (some 79))), some (.inl 1)]) (st' := [.inl (dt376 79 11), .inl ((4 * (dt376 79 10)) + 3), .inr (.inr (some 83))]) (w' := (SH, dt376)) (fun _ => rfl) ?_
                have hI395 : InvC (u2 dt376 83 (((4 * (dt376 79 10)) + 3).toNat) (dt376 79 11)) := InvC_u2 hI377 (lo := -2147483648) (hi := 2147483647) rfl rfl rfl (by omega) (by omega)
                have hF396 : Fr [79, 83, 84] dt (u2 dt376 83 (((4 * (dt376 79 10)) + 3).toNat) (dt376 79 11)) := Fr_u2 hF379 (by decide)
                have w397 : (u2 dt376 83 (((4 * (dt376 79 10)) + 3).toNat) (dt376 79 11)) 79 2 = dt376 79 2 := rfl
                have w398 : (u2 dt376 83 (((4 * (dt376 79 10)) + 3).toNat) (dt376 79 11)) 79 9 = dt376 79 9 := rfl
                have w399 : (u2 dt376 83 (((4 * (dt376 79 10)) + 3).toNat) (dt376 79 11)) 79 10 = dt376 79 10 := rfl
                have w400 : (u2 dt376 83 (((4 * (dt376 79 10)) + 3).toNat) (dt376 79 11)) 79 11 = dt376 79 11 := rfl
                have w401 : (u2 dt376 83 (((4 * (dt376 79 10)) + 3).toNat) (dt376 79 11)) 79 12 = dt376 79 12 := rfl
                have w402 : (u2 dt376 83 (((4 * (dt376 79 10)) + 3).toNat) (dt376 79 11)) 79 13 = dt376 79 13 := rfl
                have w403 : (u2 dt376 83 (((4 * (dt376 79 10)) + 3).toNat) (dt376 79 11)) 79 14 = dt376 79 14 := rfl
                have w404 : (u2 dt376 83 (((4 * (dt376 79 10)) + 3).toNat) (dt376 79 11)) 79 15 = dt376 79 15 := rfl
                have w405 : (u2 dt376 83 (((4 * (dt376 79 10)) + 3).toNat) (dt376 79 11)) 79 16 = dt376 79 16 := rfl
                have w406 : (u2 dt376 83 (((4 * (dt376 79 10)) + 3).toNat) (dt376 79 11)) 79 17 = dt376 79 17 := rfl
                have w407 : (u2 dt376 83 (((4 * (dt376 79 10)) + 3).toNat) (dt376 79 11)) 79 18 = dt376 79 18 := rfl
                have w408 : (u2 dt376 83 (((4 * (dt376 79 10)) + 3).toNat) (dt376 79 11)) 79 20 = dt376 79 20 := rfl
                have hc409 : CUR 1 b n (u2 dt376 83 (((4 * (dt376 79 10)) + 3).toNat) (dt376 79 11)) j382 := CUR_sm hc384 rfl rfl rfl rfl
                refine go_smp (L' := [some (.inr (.inr (some 79))), some (.inl 1)]) (st' := []) (w' := (SH, (u2 dt376 83 (((4 * (dt376 79 10)) + 3).toNat) (dt376 79 11)))) rfl rfl (s_iast (n := 64) rfl ⟨by omega, by omega⟩ ⟨by omega, by omega⟩) ?_
                refine go_to (k := 2) (pc' := 188) (L' := [some (.inr (.inr (some 79))), some (.inl 1)]) (st' := [.inl 159, .inr (.inr (some 79))]) (w' := (SH, (u2 dt376 83 (((4 * (dt376 79 10)) + 3).toNat) (dt376 79 11)))) (fun _ => rfl) ?_
                refine go_call (Q' := _) rfl rfl rfl rfl rfl (sp_X6_need0_g1 L xs sio (d + 29) (u2 dt376 83 (((4 * (dt376 79 10)) + 3).toNat) (dt376 79 11)) hI395 b n t j382 (by first | exact hbb | (rw [show (u2 dt376 83 (((4 * (dt376 79 10)) + 3).toNat) (dt376 79 11)) 85 = dt 85 from funext (hF396 85 (by decide)), show (u2 dt376 83 (((4 * (dt376 79 10)) + 3).toNat) (dt376 79 11)) 79 12 = dt 79 12 by omega]; exact hbb)) (by omega) hz ht hc409 hi386 hn5 159 ⟨by omega, by omega⟩ (by first | trivial | omega)) ?_
                rintro _ _ ⟨dt411, rfl, hI412, hF413, h410⟩
                refine ⟨rfl, ?_⟩
                have hF414 : Fr [79, 83, 84] dt dt411 := Fr_tr hF396 hF413 (by decide)
                rcases h410 with ⟨rfl, h410⟩ | ⟨rfl, h410⟩
                · skip
                  obtain ⟨h410_0, h410_1, h410_2, h410_3, h410_4⟩ := h410
                  have fl415 := RSX_0 h410_0 rfl
                  have fe416 : (gLF (KF 1 b n) (VF b n) (dt 79 10)) i = (gK (KF 1 b n) (159 - 100)) j382 := hp385.trans ((show (gK (KF 1 b n) 59) j382 = gB ((gK (KF 1 b n) (159 - 100)) j382) gOk by first | exact gB_id.symm | exact gL2_n (by omega)).trans (gB_no fl415.1))
                  refine go_ret (k := 1) (r := some (.inl 0)) (w1 := (SH, dt411)) (fun _ => rfl) ?_
                  exact ⟨dt411, rfl, hI412, hF414, (Or.inl ⟨rfl, ⟨by first | exact RSX_f fe416 fl415 (by omega) (by omega) | exact RSX_no (k := 1) (j := j382) (hp385.trans (by show gLF _ _ _ _ = _; unfold gLF; rw [if_pos (by omega)])) (by decide) (by omega) (by show _ = ((TP b n j382 : Nat) : Int); omega), by first | trivial | omega, by first | trivial | omega, by first | trivial | omega, by first | trivial | omega⟩⟩)⟩
                · skip
                  obtain ⟨h410_0, h410_1, h410_2, h410_3, h410_4, h410_5, h410_6, h410_7, h410_8, h410_9⟩ := h410
                  obtain ⟨j417, ej418, hc419⟩ := RSX_1 h410_0 (by decide)
                  have hp420 : (gLF (KF 1 b n) (VF b n) (dt 79 10)) i = gOk j417 := hp385.trans ((show (gK (KF 1 b n) 59) j382 = gB ((gK (KF 1 b n) (159 - 100)) j382) gOk by first | exact gB_id.symm | exact gL2_n (by omega)).trans (by rw [ej418]; rfl))
                  have hi421 : j417 ≤ t := by have z := (fun (h : KZ (KF 1 b n) t) => gK_M (K := (KF 1 b n)) (k := 159 - 100) (i := j382) h (by decide)) hz; rw [ej418] at z; have y := z rfl; simp only at y; omega
                  have cr422 := CUR_R hc419 (.inr rfl)
                  have cb423 := CUR_b hc419
                  have cv424 := CUR_v hc419
                  have ck425 := KZ_lt (i := j417) hz
                  have c1426 := (hc419).1
                  have ci427 := hi421
                  refine go_ret (k := 1) (r := some (.inl 1)) (w1 := (SH, dt411)) (fun _ => rfl) ?_
                  exact ⟨dt411, rfl, hI412, hF414, (Or.inr ⟨rfl, ⟨by exact RSX_ok (hp420.trans (by rfl)) hc419, by first | trivial | omega, by first | trivial | omega, by first | trivial | omega, by first | trivial | omega, by exact (InvC_get (by assumption) 79 15 rfl rfl).2, by first | trivial | omega, by first | trivial | omega, by first | trivial | omega, by first | trivial | omega, by first | trivial | omega⟩⟩)⟩
    · skip
      refine go_to (k := 2) (pc' := 35) (L' := [some (.inr (.inr (some 79))), none]) (st' := [.inl 3, .inr (.inr (some 79))]) (w' := (SH, dt)) (fun _ => rfl) ?_
      refine go_call (Q' := _) rfl rfl rfl rfl rfl (sp_X6_bad_g L xs sio (d + 36) dt hI  3 ⟨by omega, by omega⟩ ) ?_
      rintro _ _ ⟨dt429, rfl, hI430, hF431, h428⟩
      refine ⟨rfl, ?_⟩
      have hF432 : Fr [79, 83, 84] dt dt429 := Fr_tr hF hF431 (by decide)
      rcases h428 with ⟨rfl, h428⟩
      obtain ⟨h428_0, h428_1, h428_2, h428_3, h428_4, h428_5, h428_6, h428_7, h428_8, h428_9, h428_10, h428_11⟩ := h428
      have hc433 : CUR 1 b n dt429 i := CUR_sm hc (by omega) (by omega) (by omega) (by omega)
      refine go_ret (k := 1) (r := some (.inl 0)) (w1 := (SH, dt429)) (fun _ => rfl) ?_
      exact ⟨dt429, rfl, hI430, hF432, (Or.inl ⟨rfl, ⟨by first | exact RSX_f hI hI (by omega) (by omega) | exact RSX_no (k := 1) (j := i) ((rfl : (gLF (KF 1 b n) (VF b n) (dt 79 10)) i = (gLF (KF 1 b n) (VF b n) (dt 79 10)) i).trans (by show gLF _ _ _ _ = _; unfold gLF; rw [if_pos (by omega)])) (by decide) (by omega) (by show _ = ((TP b n i : Nat) : Int); omega), by first | trivial | omega, by first | trivial | omega, by first | trivial | omega, by first | trivial | omega⟩⟩)⟩
  · skip
    refine go_if (k := 4) (p1 := 24) (p2 := 18) (L' := [some (.inr (.inr (some 79))), none]) (st' := []) (w' := (SH, dt)) (fun _ => rfl) (c_eq (a := dt 79 14) (b := 8) ⟨by omega, by omega⟩ ⟨by omega, by omega⟩) (fun c434 => ?_) (fun c434 => ?_)
    · skip
      refine go_if (k := 4) (p1 := 39) (p2 := 33) (L' := [some (.inr (.inr (some 79))), none]) (st' := []) (w' := (SH, dt)) (fun _ => rfl) (c_ne (a := dt 79 10) (b := 16) ⟨by omega, by omega⟩ ⟨by omega, by omega⟩) (fun c435 => ?_) (fun c435 => ?_)
      · skip
        refine go_if (k := 4) (p1 := 52) (p2 := 48) (L' := [some (.inr (.inr (some 79))), none]) (st' := []) (w' := (SH, dt)) (fun _ => rfl) (c_ne (a := dt 79 14) (b := 7) ⟨by omega, by omega⟩ ⟨by omega, by omega⟩) (fun c436 => ?_) (fun c436 => ?_)
        · skip
          refine go_to (k := 4) (pc' := 56) (L' := [some (.inr (.inr (some 79))), some (.inl 0)]) (st' := [.inl 0, .inr (.inr (some 79))]) (w' := (SH, dt)) (fun _ => rfl) ?_
          have hI437 : InvC (u2 dt 79 20 0) := InvC_u2 hI (lo := 0) (hi := 8) rfl rfl rfl (by omega) (by omega)
          have hF438 : Fr [79, 83, 84] dt (u2 dt 79 20 0) := Fr_u2 hF (by decide)
          have w439 : (u2 dt 79 20 0) 79 2 = dt 79 2 := rfl
          have w440 : (u2 dt 79 20 0) 79 9 = dt 79 9 := rfl
          have w441 : (u2 dt 79 20 0) 79 10 = dt 79 10 := rfl
          have w442 : (u2 dt 79 20 0) 79 11 = dt 79 11 := rfl
          have w443 : (u2 dt 79 20 0) 79 12 = dt 79 12 := rfl
          have w444 : (u2 dt 79 20 0) 79 13 = dt 79 13 := rfl
          have w445 : (u2 dt 79 20 0) 79 14 = dt 79 14 := rfl
          have w446 : (u2 dt 79 20 0) 79 15 = dt 79 15 := rfl
          have w447 : (u2 dt 79 20 0) 79 16 = dt 79 16 := rfl
          have w448 : (u2 dt 79 20 0) 79 17 = dt 79 17 := rfl
          have w449 : (u2 dt 79 20 0) 79 18 = dt 79 18 := rfl
          have w450 : (u2 dt 79 20 0) 79 20 = 0 := rfl
          have hc451 : CUR 1 b n (u2 dt 79 20 0) i := CUR_sm hc rfl rfl rfl rfl
          refine go_smp (L' := [some (.inr (.inr (some 79))), some (.inl 0)]) (st' := []) (w' := (SH, (u2 dt 79 20 0))) rfl rfl (s_pf rfl rfl rfl rfl ⟨by omega, by omega⟩) ?_
          refine go_to (k := 1) (pc' := 60) (L' := [some (.inr (.inr (some 79))), some (.inl 0)]) (st' := [.inr (.inr (some 79))]) (w' := (SH, (u2 dt 79 20 0))) (fun _ => rfl) ?_
          refine go_call (Q' := _) rfl rfl rfl rfl rfl (sp_X6_next0_p1 L xs sio (d + 30) (u2 dt 79 20 0) hI437   (by first | trivial | omega) (by first | trivial | omega)) ?_
          rintro _ _ ⟨dt453, rfl, hI454, hF455, h452⟩
          refine ⟨rfl, ?_⟩
          have hF456 : Fr [79, 83, 84] dt dt453 := Fr_tr hF438 hF455 (by decide)
          rcases h452 with ⟨rfl, h452⟩
          obtain ⟨h452_0, h452_1, h452_2, h452_3, h452_4, h452_5, h452_6, h452_7, h452_8⟩ := h452
          have hq457 := h452_0
          rw [show (u2 dt 79 20 0) 85 = dt 85 from funext (hF438 85 (by decide)), show (u2 dt 79 20 0) 79 12 = dt 79 12 by omega, hbb, show (dt 79 12).toNat = n by omega] at hq457
          have hc458 : CUR 1 b n dt453 (i + 1) := CUR_n hc451 hq457
          have hi459 : i + 1 ≤ t := by omega
          have hp460 : (gLF (KF 1 b n) (VF b n) (dt 79 10)) i = (gL1 (KF 1 b n) (VF b n)) (i + 1) := (rfl : (gLF (KF 1 b n) (VF b n) (dt 79 10)) i = (gLF (KF 1 b n) (VF b n) (dt 79 10)) i).trans (by show gLF _ _ _ _ = _; unfold gLF; rw [if_neg (by omega), if_neg (by omega)]; exact gLine_p (by omega))
          have cr461 := CUR_R hc458 (.inr rfl)
          have cb462 := CUR_b hc458
          have cv463 := CUR_v hc458
          have ck464 := KZ_lt (i := (i + 1)) hz
          have c1465 := (hc458).1
          have ci466 := hi459
          have r467 : 0 ≤ dt453 79 10 ∧ dt453 79 10 ≤ 24 := InvC_get hI454 79 10 rfl rfl
          refine go_to (k := 9) (pc' := 86) (L' := [some (.inr (.inr (some 79))), some (.inl 0)]) (st' := [.inl 8, .inl (4 * (dt453 79 10)), .inr (.inr (some 83))]) (w' := (SH, dt453)) (fun _ => rfl) ?_
          have hI468 : InvC (u2 dt453 83 ((4 * (dt453 79 10)).toNat) 8) := InvC_u2 hI454 (lo := -2147483648) (hi := 2147483647) rfl rfl rfl (by omega) (by omega)
          have hF469 : Fr [79, 83, 84] dt (u2 dt453 83 ((4 * (dt453 79 10)).toNat) 8) := Fr_u2 hF456 (by decide)
          have w470 : (u2 dt453 83 ((4 * (dt453 79 10)).toNat) 8) 79 2 = dt453 79 2 := rfl
          have w471 : (u2 dt453 83 ((4 * (dt453 79 10)).toNat) 8) 79 9 = dt453 79 9 := rfl
          have w472 : (u2 dt453 83 ((4 * (dt453 79 10)).toNat) 8) 79 10 = dt453 79 10 := rfl
          have w473 : (u2 dt453 83 ((4 * (dt453 79 10)).toNat) 8) 79 11 = dt453 79 11 := rfl
          have w474 : (u2 dt453 83 ((4 * (dt453 79 10)).toNat) 8) 79 12 = dt453 79 12 := rfl
          have w475 : (u2 dt453 83 ((4 * (dt453 79 10)).toNat) 8) 79 13 = dt453 79 13 := rfl
          have w476 : (u2 dt453 83 ((4 * (dt453 79 10)).toNat) 8) 79 14 = dt453 79 14 := rfl
          have w477 : (u2 dt453 83 ((4 * (dt453 79 10)).toNat) 8) 79 15 = dt453 79 15 := rfl
          have w478 : (u2 dt453 83 ((4 * (dt453 79 10)).toNat) 8) 79 16 = dt453 79 16 := rfl
          have w479 : (u2 dt453 83 ((4 * (dt453 79 10)).toNat) 8) 79 17 = dt453 79 17 := rfl
          have w480 : (u2 dt453 83 ((4 * (dt453 79 10)).toNat) 8) 79 18 = dt453 79 18 := rfl
          have w481 : (u2 dt453 83 ((4 * (dt453 79 10)).toNat) 8) 79 20 = dt453 79 20 := rfl
          have hc482 : CUR 1 b n (u2 dt453 83 ((4 * (dt453 79 10)).toNat) 8) (i + 1) := CUR_sm hc458 rfl rfl rfl rfl
          refine go_smp (L' := [some (.inr (.inr (some 79))), some (.inl 0)]) (st' := []) (w' := (SH, (u2 dt453 83 ((4 * (dt453 79 10)).toNat) 8))) rfl rfl (s_iast (n := 64) rfl ⟨by omega, by omega⟩ ⟨by omega, by omega⟩) ?_
          have r483 : 0 ≤ dt453 79 11 ∧ dt453 79 11 ≤ 510 := InvC_get hI454 79 11 rfl rfl
          refine go_to (k := 12) (pc' := 119) (L' := [some (.inr (.inr (some 79))), some (.inl 0)]) (st' := [.inl (dt453 79 11), .inl ((4 * (dt453 79 10)) + 1), .inr (.inr (some 83))]) (w' := (SH, (u2 dt453 83 ((4 * (dt453 79 10)).toNat) 8))) (fun _ => rfl) ?_
          have hI484 : InvC (u2 (u2 dt453 83 ((4 * (dt453 79 10)).toNat) 8) 83 (((4 * (dt453 79 10)) + 1).toNat) (dt453 79 11)) := InvC_u2 hI468 (lo := -2147483648) (hi := 2147483647) rfl rfl rfl (by omega) (by omega)
          have hF485 : Fr [79, 83, 84] dt (u2 (u2 dt453 83 ((4 * (dt453 79 10)).toNat) 8) 83 (((4 * (dt453 79 10)) + 1).toNat) (dt453 79 11)) := Fr_u2 hF469 (by decide)
          have w486 : (u2 (u2 dt453 83 ((4 * (dt453 79 10)).toNat) 8) 83 (((4 * (dt453 79 10)) + 1).toNat) (dt453 79 11)) 79 2 = (u2 dt453 83 ((4 * (dt453 79 10)).toNat) 8) 79 2 := rfl
          have w487 : (u2 (u2 dt453 83 ((4 * (dt453 79 10)).toNat) 8) 83 (((4 * (dt453 79 10)) + 1).toNat) (dt453 79 11)) 79 9 = (u2 dt453 83 ((4 * (dt453 79 10)).toNat) 8) 79 9 := rfl
          have w488 : (u2 (u2 dt453 83 ((4 * (dt453 79 10)).toNat) 8) 83 (((4 * (dt453 79 10)) + 1).toNat) (dt453 79 11)) 79 10 = (u2 dt453 83 ((4 * (dt453 79 10)).toNat) 8) 79 10 := rfl
          have w489 : (u2 (u2 dt453 83 ((4 * (dt453 79 10)).toNat) 8) 83 (((4 * (dt453 79 10)) + 1).toNat) (dt453 79 11)) 79 11 = (u2 dt453 83 ((4 * (dt453 79 10)).toNat) 8) 79 11 := rfl
          have w490 : (u2 (u2 dt453 83 ((4 * (dt453 79 10)).toNat) 8) 83 (((4 * (dt453 79 10)) + 1).toNat) (dt453 79 11)) 79 12 = (u2 dt453 83 ((4 * (dt453 79 10)).toNat) 8) 79 12 := rfl
          have w491 : (u2 (u2 dt453 83 ((4 * (dt453 79 10)).toNat) 8) 83 (((4 * (dt453 79 10)) + 1).toNat) (dt453 79 11)) 79 13 = (u2 dt453 83 ((4 * (dt453 79 10)).toNat) 8) 79 13 := rfl
          have w492 : (u2 (u2 dt453 83 ((4 * (dt453 79 10)).toNat) 8) 83 (((4 * (dt453 79 10)) + 1).toNat) (dt453 79 11)) 79 14 = (u2 dt453 83 ((4 * (dt453 79 10)).toNat) 8) 79 14 := rfl
          have w493 : (u2 (u2 dt453 83 ((4 * (dt453 79 10)).toNat) 8) 83 (((4 * (dt453 79 10)) + 1).toNat) (dt453 79 11)) 79 15 = (u2 dt453 83 ((4 * (dt453 79 10)).toNat) 8) 79 15 := rfl
          have w494 : (u2 (u2 dt453 83 ((4 * (dt453 79 10)).toNat) 8) 83 (((4 * (dt453 79 10)) + 1).toNat) (dt453 79 11)) 79 16 = (u2 dt453 83 ((4 * (dt453 79 10)).toNat) 8) 79 16 := rfl
          have w495 : (u2 (u2 dt453 83 ((4 * (dt453 79 10)).toNat) 8) 83 (((4 * (dt453 79 10)) + 1).toNat) (dt453 79 11)) 79 17 = (u2 dt453 83 ((4 * (dt453 79 10)).toNat) 8) 79 17 := rfl
          have w496 : (u2 (u2 dt453 83 ((4 * (dt453 79 10)).toNat) 8) 83 (((4 * (dt453 79 10)) + 1).toNat) (dt453 79 11)) 79 18 = (u2 dt453 83 ((4 * (dt453 79 10)).toNat) 8) 79 18 := rfl
          have w497 : (u2 (u2 dt453 83 ((4 * (dt453 79 10)).toNat) 8) 83 (((4 * (dt453 79 10)) + 1).toNat) (dt453 79 11)) 79 20 = (u2 dt453 83 ((4 * (dt453 79 10)).toNat) 8) 79 20 := rfl
          have hc498 : CUR 1 b n (u2 (u2 dt453 83 ((4 * (dt453 79 10)).toNat) 8) 83 (((4 * (dt453 79 10)) + 1).toNat) (dt453 79 11)) (i + 1) := CUR_sm hc482 rfl rfl rfl rfl
          refine go_smp (L' := [some (.inr (.inr (some 79))), some (.inl 0)]) (st' := []) (w' := (SH, (u2 (u2 dt453 83 ((4 * (dt453 79 10)).toNat) 8) 83 (((4 * (dt453 79 10)) + 1).toNat) (dt453 79 11)))) rfl rfl (s_iast (n := 64) rfl ⟨by omega, by omega⟩ ⟨by omega, by omega⟩) ?_
          refine go_to (k := 1) (pc' := 121) (L' := [some (.inr (.inr (some 79))), some (.inl 0)]) (st' := [.inr (.inr (some 79))]) (w' := (SH, (u2 (u2 dt453 83 ((4 * (dt453 79 10)).toNat) 8) 83 (((4 * (dt453 79 10)) + 1).toNat) (dt453 79 11)))) (fun _ => rfl) ?_
          refine go_call (Q' := _) rfl rfl rfl rfl rfl (sp_X6_sumUp_g L xs sio (d + 27) (u2 (u2 dt453 83 ((4 * (dt453 79 10)).toNat) 8) 83 (((4 * (dt453 79 10)) + 1).toNat) (dt453 79 11)) hI484 b n t (i + 1) (by first | exact hbb | (rw [show (u2 (u2 dt453 83 ((4 * (dt453 79 10)).toNat) 8) 83 (((4 * (dt453 79 10)) + 1).toNat) (dt453 79 11)) 85 = dt 85 from funext (hF485 85 (by decide)), show (u2 (u2 dt453 83 ((4 * (dt453 79 10)).toNat) 8) 83 (((4 * (dt453 79 10)) + 1).toNat) (dt453 79 11)) 79 12 = dt 79 12 by omega]; exact hbb)) (by omega) hz ht hc498 hi459 hn5  (by first | trivial | omega) (by first | trivial | omega)) ?_
          rintro _ _ ⟨dt500, rfl, hI501, hF502, h499⟩
          refine ⟨rfl, ?_⟩
          have hF503 : Fr [79, 83, 84] dt dt500 := Fr_tr hF485 hF502 (by decide)
          rcases h499 with ⟨rfl, h499⟩ | ⟨rfl, h499⟩
          · skip
            obtain ⟨h499_0, h499_1, h499_2, h499_3, h499_4⟩ := h499
            have fl504 := RSX_0 h499_0 rfl
            have fe505 : (gLF (KF 1 b n) (VF b n) (dt 79 10)) i = (gE (KF 1 b n) (VF b n)) (i + 1) := hp460.trans ((show (gL1 (KF 1 b n) (VF b n)) (i + 1) = gB ((gE (KF 1 b n) (VF b n)) (i + 1)) (gL2 (KF 1 b n) (VF b n)) by rfl).trans (gB_no fl504.1))
            refine go_ret (k := 3) (r := some (.inl 0)) (w1 := (SH, dt500)) (fun _ => rfl) ?_
            exact ⟨dt500, rfl, hI501, hF503, (Or.inl ⟨rfl, ⟨by first | exact RSX_f fe505 fl504 (by omega) (by omega) | exact RSX_no (k := 1) (j := (i + 1)) (hp460.trans (by show gLF _ _ _ _ = _; unfold gLF; rw [if_pos (by omega)])) (by decide) (by omega) (by show _ = ((TP b n (i + 1) : Nat) : Int); omega), by first | trivial | omega, by first | trivial | omega, by first | trivial | omega, by first | trivial | omega⟩⟩)⟩
          · skip
            obtain ⟨h499_0, h499_1, h499_2, h499_3, h499_4, h499_5, h499_6, h499_7, h499_8, h499_9⟩ := h499
            obtain ⟨j506, ej507, hc508⟩ := RSX_1 h499_0 (by decide)
            have hp509 : (gLF (KF 1 b n) (VF b n) (dt 79 10)) i = (gL2 (KF 1 b n) (VF b n)) j506 := hp460.trans ((show (gL1 (KF 1 b n) (VF b n)) (i + 1) = gB ((gE (KF 1 b n) (VF b n)) (i + 1)) (gL2 (KF 1 b n) (VF b n)) by rfl).trans (by rw [ej507]; rfl))
            have hi510 : j506 ≤ t := by have z := gE_M (K := (KF 1 b n)) (V := (VF b n)) (i := (i + 1)) hz; rw [ej507] at z; have y := z rfl; simp only at y; omega
            have cr511 := CUR_R hc508 (.inr rfl)
            have cb512 := CUR_b hc508
            have cv513 := CUR_v hc508
            have ck514 := KZ_lt (i := j506) hz
            have c1515 := (hc508).1
            have ci516 := hi510
            have r517 : 0 ≤ dt500 79 10 ∧ dt500 79 10 ≤ 24 := InvC_get hI501 79 10 rfl rfl
            have r518 : 0 ≤ dt500 79 11 ∧ dt500 79 11 ≤ 510 := InvC_get hI501 79 11 rfl rfl
            refine go_to (k := 11) (pc' := 145) (L' := [some (.inr (.inr (some 79))), some (.inl 0)]) (st' := [.inl (dt500 79 11), .inl ((4 * (dt500 79 10)) + 2), .inr (.inr (some 83))]) (w' := (SH, dt500)) (fun _ => rfl) ?_
            have hI519 : InvC (u2 dt500 83 (((4 * (dt500 79 10)) + 2).toNat) (dt500 79 11)) := InvC_u2 hI501 (lo := -2147483648) (hi := 2147483647) rfl rfl rfl (by omega) (by omega)
            have hF520 : Fr [79, 83, 84] dt (u2 dt500 83 (((4 * (dt500 79 10)) + 2).toNat) (dt500 79 11)) := Fr_u2 hF503 (by decide)
            have w521 : (u2 dt500 83 (((4 * (dt500 79 10)) + 2).toNat) (dt500 79 11)) 79 2 = dt500 79 2 := rfl
            have w522 : (u2 dt500 83 (((4 * (dt500 79 10)) + 2).toNat) (dt500 79 11)) 79 9 = dt500 79 9 := rfl
            have w523 : (u2 dt500 83 (((4 * (dt500 79 10)) + 2).toNat) (dt500 79 11)) 79 10 = dt500 79 10 := rfl
            have w524 : (u2 dt500 83 (((4 * (dt500 79 10)) + 2).toNat) (dt500 79 11)) 79 11 = dt500 79 11 := rfl
            have w525 : (u2 dt500 83 (((4 * (dt500 79 10)) + 2).toNat) (dt500 79 11)) 79 12 = dt500 79 12 := rfl
            have w526 : (u2 dt500 83 (((4 * (dt500 79 10)) + 2).toNat) (dt500 79 11)) 79 13 = dt500 79 13 := rfl
            have w527 : (u2 dt500 83 (((4 * (dt500 79 10)) + 2).toNat) (dt500 79 11)) 79 14 = dt500 79 14 := rfl
            have w528 : (u2 dt500 83 (((4 * (dt500 79 10)) + 2).toNat) (dt500 79 11)) 79 15 = dt500 79 15 := rfl
            have w529 : (u2 dt500 83 (((4 * (dt500 79 10)) + 2).toNat) (dt500 79 11)) 79 16 = dt500 79 16 := rfl
            have w530 : (u2 dt500 83 (((4 * (dt500 79 10)) + 2).toNat) (dt500 79 11)) 79 17 = dt500 79 17 := rfl
            have w531 : (u2 dt500 83 (((4 * (dt500 79 10)) + 2).toNat) (dt500 79 11)) 79 18 = dt500 79 18 := rfl
            have w532 : (u2 dt500 83 (((4 * (dt500 79 10)) + 2).toNat) (dt500 79 11)) 79 20 = dt500 79 20 := rfl
            have hc533 : CUR 1 b n (u2 dt500 83 (((4 * (dt500 79 10)) + 2).toNat) (dt500 79 11)) j506 := CUR_sm hc508 rfl rfl rfl rfl
            refine go_smp (L' := [some (.inr (.inr (some 79))), some (.inl 0)]) (st' := []) (w' := (SH, (u2 dt500 83 (((4 * (dt500 79 10)) + 2).toNat) (dt500 79 11)))) rfl rfl (s_iast (n := 64) rfl ⟨by omega, by omega⟩ ⟨by omega, by omega⟩) ?_
            have r534 : (-2147483648) ≤ dt500 79 14 ∧ dt500 79 14 ≤ 2147483647 := InvC_get hI501 79 14 rfl rfl
            refine go_if (k := 4) (p1 := 167) (p2 := 154) (L' := [some (.inr (.inr (some 79))), some (.inl 0)]) (st' := []) (w' := (SH, (u2 dt500 83 (((4 * (dt500 79 10)) + 2).toNat) (dt500 79 11)))) (fun _ => rfl) (c_ne (a := dt500 79 14) (b := 3) ⟨by omega, by omega⟩ ⟨by omega, by omega⟩) (fun c535 => ?_) (fun c535 => ?_)
            · skip
              refine go_to (k := 10) (pc' := 183) (L' := [some (.inr (.inr (some 79))), some (.inl 0)]) (st' := [.inl (dt500 79 11), .inl ((4 * (dt500 79 10)) + 3), .inr (.inr (some 83))]) (w' := (SH, (u2 dt500 83 (((4 * (dt500 79 10)) + 2).toNat) (dt500 79 11)))) (fun _ => rfl) ?_
              have hI536 : InvC (u2 (u2 dt500 83 (((4 * (dt500 79 10)) + 2).toNat) (dt500 79 11)) 83 (((4 * (dt500 79 10)) + 3).toNat) (dt500 79 11)) := InvC_u2 hI519 (lo := -2147483648) (hi := 2147483647) rfl rfl rfl (by omega) (by omega)
              have hF537 : Fr [79, 83, 84] dt (u2 (u2 dt500 83 (((4 * (dt500 79 10)) + 2).toNat) (dt500 79 11)) 83 (((4 * (dt500 79 10)) + 3).toNat) (dt500 79 11)) := Fr_u2 hF520 (by decide)
              have w538 : (u2 (u2 dt500 83 (((4 * (dt500 79 10)) + 2).toNat) (dt500 79 11)) 83 (((4 * (dt500 79 10)) + 3).toNat) (dt500 79 11)) 79 2 = (u2 dt500 83 (((4 * (dt500 79 10)) + 2).toNat) (dt500 79 11)) 79 2 := rfl
              have w539 : (u2 (u2 dt500 83 (((4 * (dt500 79 10)) + 2).toNat) (dt500 79 11)) 83 (((4 * (dt500 79 10)) + 3).toNat) (dt500 79 11)) 79 9 = (u2 dt500 83 (((4 * (dt500 79 10)) + 2).toNat) (dt500 79 11)) 79 9 := rfl
              have w540 : (u2 (u2 dt500 83 (((4 * (dt500 79 10)) + 2).toNat) (dt500 79 11)) 83 (((4 * (dt500 79 10)) + 3).toNat) (dt500 79 11)) 79 10 = (u2 dt500 83 (((4 * (dt500 79 10)) + 2).toNat) (dt500 79 11)) 79 10 := rfl
              have w541 : (u2 (u2 dt500 83 (((4 * (dt500 79 10)) + 2).toNat) (dt500 79 11)) 83 (((4 * (dt500 79 10)) + 3).toNat) (dt500 79 11)) 79 11 = (u2 dt500 83 (((4 * (dt500 79 10)) + 2).toNat) (dt500 79 11)) 79 11 := rfl
              have w542 : (u2 (u2 dt500 83 (((4 * (dt500 79 10)) + 2).toNat) (dt500 79 11)) 83 (((4 * (dt500 79 10)) + 3).toNat) (dt500 79 11)) 79 12 = (u2 dt500 83 (((4 * (dt500 79 10)) + 2).toNat) (dt500 79 11)) 79 12 := rfl
              have w543 : (u2 (u2 dt500 83 (((4 * (dt500 79 10)) + 2).toNat) (dt500 79 11)) 83 (((4 * (dt500 79 10)) + 3).toNat) (dt500 79 11)) 79 13 = (u2 dt500 83 (((4 * (dt500 79 10)) + 2).toNat) (dt500 79 11)) 79 13 := rfl
              have w544 : (u2 (u2 dt500 83 (((4 * (dt500 79 10)) + 2).toNat) (dt500 79 11)) 83 (((4 * (dt500 79 10)) + 3).toNat) (dt500 79 11)) 79 14 = (u2 dt500 83 (((4 * (dt500 79 10)) + 2).toNat) (dt500 79 11)) 79 14 := rfl
              have w545 : (u2 (u2 dt500 83 (((4 * (dt500 79 10)) + 2).toNat) (dt500 79 11)) 83 (((4 * (dt500 79 10)) + 3).toNat) (dt500 79 11)) 79 15 = (u2 dt500 83 (((4 * (dt500 79 10)) + 2).toNat) (dt500 79 11)) 79 15 := rfl
              have w546 : (u2 (u2 dt500 83 (((4 * (dt500 79 10)) + 2).toNat) (dt500 79 11)) 83 (((4 * (dt500 79 10)) + 3).toNat) (dt500 79 11)) 79 16 = (u2 dt500 83 (((4 * (dt500 79 10)) + 2).toNat) (dt500 79 11)) 79 16 := rfl
              have w547 : (u2 (u2 dt500 83 (((4 * (dt500 79 10)) + 2).toNat) (dt500 79 11)) 83 (((4 * (dt500 79 10)) + 3).toNat) (dt500 79 11)) 79 17 = (u2 dt500 83 (((4 * (dt500 79 10)) + 2).toNat) (dt500 79 11)) 79 17 := rfl
              have w548 : (u2 (u2 dt500 83 (((4 * (dt500 79 10)) + 2).toNat) (dt500 79 11)) 83 (((4 * (dt500 79 10)) + 3).toNat) (dt500 79 11)) 79 18 = (u2 dt500 83 (((4 * (dt500 79 10)) + 2).toNat) (dt500 79 11)) 79 18 := rfl
              have w549 : (u2 (u2 dt500 83 (((4 * (dt500 79 10)) + 2).toNat) (dt500 79 11)) 83 (((4 * (dt500 79 10)) + 3).toNat) (dt500 79 11)) 79 20 = (u2 dt500 83 (((4 * (dt500 79 10)) + 2).toNat) (dt500 79 11)) 79 20 := rfl
              have hc550 : CUR 1 b n (u2 (u2 dt500 83 (((4 * (dt500 79 10)) + 2).toNat) (dt500 79 11)) 83 (((4 * (dt500 79 10)) + 3).toNat) (dt500 79 11)) j506 := CUR_sm hc533 rfl rfl rfl rfl
              refine go_smp (L' := [some (.inr (.inr (some 79))), some (.inl 0)]) (st' := []) (w' := (SH, (u2 (u2 dt500 83 (((4 * (dt500 79 10)) + 2).toNat) (dt500 79 11)) 83 (((4 * (dt500 79 10)) + 3).toNat) (dt500 79 11)))) rfl rfl (s_iast (n := 64) rfl ⟨by omega, by omega⟩ ⟨by omega, by omega⟩) ?_
              refine go_to (k := 2) (pc' := 188) (L' := [some (.inr (.inr (some 79))), some (.inl 0)]) (st' := [.inl 159, .inr (.inr (some 79))]) (w' := (SH, (u2 (u2 dt500 83 (((4 * (dt500 79 10)) + 2).toNat) (dt500 79 11)) 83 (((4 * (dt500 79 10)) + 3).toNat) (dt500 79 11)))) (fun _ => rfl) ?_
              refine go_call (Q' := _) rfl rfl rfl rfl rfl (sp_X6_need0_g1 L xs sio (d + 29) (u2 (u2 dt500 83 (((4 * (dt500 79 10)) + 2).toNat) (dt500 79 11)) 83 (((4 * (dt500 79 10)) + 3).toNat) (dt500 79 11)) hI536 b n t j506 (by first | exact hbb | (rw [show (u2 (u2 dt500 83 (((4 * (dt500 79 10)) + 2).toNat) (dt500 79 11)) 83 (((4 * (dt500 79 10)) + 3).toNat) (dt500 79 11)) 85 = dt 85 from funext (hF537 85 (by decide)), show (u2 (u2 dt500 83 (((4 * (dt500 79 10)) + 2).toNat) (dt500 79 11)) 83 (((4 * (dt500 79 10)) + 3).toNat) (dt500 79 11)) 79 12 = dt 79 12 by omega]; exact hbb)) (by omega) hz ht hc550 hi510 hn5 159 ⟨by omega, by omega⟩ (by first | trivial | omega)) ?_
              rintro _ _ ⟨dt552, rfl, hI553, hF554, h551⟩
              refine ⟨rfl, ?_⟩
              have hF555 : Fr [79, 83, 84] dt dt552 := Fr_tr hF537 hF554 (by decide)
              rcases h551 with ⟨rfl, h551⟩ | ⟨rfl, h551⟩
              · skip
                obtain ⟨h551_0, h551_1, h551_2, h551_3, h551_4⟩ := h551
                have fl556 := RSX_0 h551_0 rfl
                have fe557 : (gLF (KF 1 b n) (VF b n) (dt 79 10)) i = (gK (KF 1 b n) (159 - 100)) j506 := hp509.trans ((show (gL2 (KF 1 b n) (VF b n)) j506 = gB ((gK (KF 1 b n) (159 - 100)) j506) gOk by first | exact gB_id.symm | exact gL2_n (by omega)).trans (gB_no fl556.1))
                refine go_ret (k := 1) (r := some (.inl 0)) (w1 := (SH, dt552)) (fun _ => rfl) ?_
                exact ⟨dt552, rfl, hI553, hF555, (Or.inl ⟨rfl, ⟨by first | exact RSX_f fe557 fl556 (by omega) (by omega) | exact RSX_no (k := 1) (j := j506) (hp509.trans (by show gLF _ _ _ _ = _; unfold gLF; rw [if_pos (by omega)])) (by decide) (by omega) (by show _ = ((TP b n j506 : Nat) : Int); omega), by first | trivial | omega, by first | trivial | omega, by first | trivial | omega, by first | trivial | omega⟩⟩)⟩
              · skip
                obtain ⟨h551_0, h551_1, h551_2, h551_3, h551_4, h551_5, h551_6, h551_7, h551_8, h551_9⟩ := h551
                obtain ⟨j558, ej559, hc560⟩ := RSX_1 h551_0 (by decide)
                have hp561 : (gLF (KF 1 b n) (VF b n) (dt 79 10)) i = gOk j558 := hp509.trans ((show (gL2 (KF 1 b n) (VF b n)) j506 = gB ((gK (KF 1 b n) (159 - 100)) j506) gOk by first | exact gB_id.symm | exact gL2_n (by omega)).trans (by rw [ej559]; rfl))
                have hi562 : j558 ≤ t := by have z := (fun (h : KZ (KF 1 b n) t) => gK_M (K := (KF 1 b n)) (k := 159 - 100) (i := j506) h (by decide)) hz; rw [ej559] at z; have y := z rfl; simp only at y; omega
                have cr563 := CUR_R hc560 (.inr rfl)
                have cb564 := CUR_b hc560
                have cv565 := CUR_v hc560
                have ck566 := KZ_lt (i := j558) hz
                have c1567 := (hc560).1
                have ci568 := hi562
                refine go_ret (k := 1) (r := some (.inl 1)) (w1 := (SH, dt552)) (fun _ => rfl) ?_
                exact ⟨dt552, rfl, hI553, hF555, (Or.inr ⟨rfl, ⟨by exact RSX_ok (hp561.trans (by rfl)) hc560, by first | trivial | omega, by first | trivial | omega, by first | trivial | omega, by first | trivial | omega, by exact (InvC_get (by assumption) 79 15 rfl rfl).2, by first | trivial | omega, by first | trivial | omega, by first | trivial | omega, by first | trivial | omega, by first | trivial | omega⟩⟩)⟩
            · skip
              refine go_to (k := 1) (pc' := 155) (L' := [some (.inr (.inr (some 79))), some (.inl 0)]) (st' := [.inr (.inr (some 79))]) (w' := (SH, (u2 dt500 83 (((4 * (dt500 79 10)) + 2).toNat) (dt500 79 11)))) (fun _ => rfl) ?_
              refine go_call (Q' := _) rfl rfl rfl rfl rfl (sp_X6_next0_p1 L xs sio (d + 30) (u2 dt500 83 (((4 * (dt500 79 10)) + 2).toNat) (dt500 79 11)) hI519   (by first | trivial | omega) (by first | trivial | omega)) ?_
              rintro _ _ ⟨dt570, rfl, hI571, hF572, h569⟩
              refine ⟨rfl, ?_⟩
              have hF573 : Fr [79, 83, 84] dt dt570 := Fr_tr hF520 hF572 (by decide)
              rcases h569 with ⟨rfl, h569⟩
              obtain ⟨h569_0, h569_1, h569_2, h569_3, h569_4, h569_5, h569_6, h569_7, h569_8⟩ := h569
              have hq574 := h569_0
              rw [show (u2 dt500 83 (((4 * (dt500 79 10)) + 2).toNat) (dt500 79 11)) 85 = dt 85 from funext (hF520 85 (by decide)), show (u2 dt500 83 (((4 * (dt500 79 10)) + 2).toNat) (dt500 79 11)) 79 12 = dt 79 12 by omega, hbb, show (dt 79 12).toNat = n by omega] at hq574
              have hc575 : CUR 1 b n dt570 (j506 + 1) := CUR_n hc533 hq574
              have hi576 : j506 + 1 ≤ t := by omega
              have hp577 : (gLF (KF 1 b n) (VF b n) (dt 79 10)) i = (fun i => gB (gB_ (KF 1 b n) (VF b n) 8 i) (gK (KF 1 b n) 59)) (j506 + 1) := hp509.trans (by exact gL2_w (by omega))
              have cr578 := CUR_R hc575 (.inr rfl)
              have cb579 := CUR_b hc575
              have cv580 := CUR_v hc575
              have ck581 := KZ_lt (i := (j506 + 1)) hz
              have c1582 := (hc575).1
              have ci583 := hi576
              refine go_to (k := 1) (pc' := 159) (L' := [some (.inr (.inr (some 79))), some (.inl 0)]) (st' := [.inr (.inr (some 79))]) (w' := (SH, dt570)) (fun _ => rfl) ?_
              refine go_call (Q' := _) rfl rfl rfl rfl rfl (sp_X6_any_g0 L xs sio (d + 0) dt570 hI571 b n t (j506 + 1) (by first | exact hbb | (rw [show dt570 85 = dt 85 from funext (hF573 85 (by decide)), show dt570 79 12 = dt 79 12 by omega]; exact hbb)) (by omega) hz ht hc575 hi576 hn5  (by first | trivial | omega) (by first | trivial | omega) (by first | trivial | omega)) ?_
              rintro _ _ ⟨dt585, rfl, hI586, hF587, h584⟩
              refine ⟨rfl, ?_⟩
              have hF588 : Fr [79, 83, 84] dt dt585 := Fr_tr hF573 hF587 (by decide)
              rcases h584 with ⟨rfl, h584⟩ | ⟨rfl, h584⟩
              · skip
                obtain ⟨h584_0, h584_1, h584_2, h584_3, h584_4⟩ := h584
                have fl589 := RSX_0 h584_0 rfl
                have fe590 : (gLF (KF 1 b n) (VF b n) (dt 79 10)) i = (gB_ (KF 1 b n) (VF b n) 8) (j506 + 1) := hp577.trans ((show (fun i => gB (gB_ (KF 1 b n) (VF b n) 8 i) (gK (KF 1 b n) 59)) (j506 + 1) = gB ((gB_ (KF 1 b n) (VF b n) 8) (j506 + 1)) (gK (KF 1 b n) 59) by rfl).trans (gB_no fl589.1))
                refine go_ret (k := 3) (r := some (.inl 0)) (w1 := (SH, dt585)) (fun _ => rfl) ?_
                exact ⟨dt585, rfl, hI586, hF588, (Or.inl ⟨rfl, ⟨by first | exact RSX_f fe590 fl589 (by omega) (by omega) | exact RSX_no (k := 1) (j := (j506 + 1)) (hp577.trans (by show gLF _ _ _ _ = _; unfold gLF; rw [if_pos (by omega)])) (by decide) (by omega) (by show _ = ((TP b n (j506 + 1) : Nat) : Int); omega), by first | trivial | omega, by first | trivial | omega, by first | trivial | omega, by first | trivial | omega⟩⟩)⟩
              · skip
                obtain ⟨h584_0, h584_1, h584_2, h584_3, h584_4, h584_5, h584_6, h584_7, h584_8, h584_9⟩ := h584
                obtain ⟨j591, ej592, hc593⟩ := RSX_1 h584_0 (by decide)
                have hp594 : (gLF (KF 1 b n) (VF b n) (dt 79 10)) i = (gK (KF 1 b n) 59) j591 := hp577.trans ((show (fun i => gB (gB_ (KF 1 b n) (VF b n) 8 i) (gK (KF 1 b n) 59)) (j506 + 1) = gB ((gB_ (KF 1 b n) (VF b n) 8) (j506 + 1)) (gK (KF 1 b n) 59) by rfl).trans (by rw [ej592]; rfl))
                have hi595 : j591 ≤ t := by have z := gB__M (K := (KF 1 b n)) (V := (VF b n)) (d := 8) (i := (j506 + 1)) hz; rw [ej592] at z; have y := z rfl; simp only at y; omega
                have cr596 := CUR_R hc593 (.inr rfl)
                have cb597 := CUR_b hc593
                have cv598 := CUR_v hc593
                have ck599 := KZ_lt (i := j591) hz
                have c1600 := (hc593).1
                have ci601 := hi595
                have r602 : 0 ≤ dt585 79 10 ∧ dt585 79 10 ≤ 24 := InvC_get hI586 79 10 rfl rfl
                have r603 : 0 ≤ dt585 79 11 ∧ dt585 79 11 ≤ 510 := InvC_get hI586 79 11 rfl rfl
                refine go_to (k := 11) (pc' := 183) (L' := [some (.inr (.inr (some 79))), some (.inl 0)]) (st' := [.inl (dt585 79 11), .inl ((4 * (dt585 79 10)) + 3), .inr (.inr (some 83))]) (w' := (SH, dt585)) (fun _ => rfl) ?_
                have hI604 : InvC (u2 dt585 83 (((4 * (dt585 79 10)) + 3).toNat) (dt585 79 11)) := InvC_u2 hI586 (lo := -2147483648) (hi := 2147483647) rfl rfl rfl (by omega) (by omega)
                have hF605 : Fr [79, 83, 84] dt (u2 dt585 83 (((4 * (dt585 79 10)) + 3).toNat) (dt585 79 11)) := Fr_u2 hF588 (by decide)
                have w606 : (u2 dt585 83 (((4 * (dt585 79 10)) + 3).toNat) (dt585 79 11)) 79 2 = dt585 79 2 := rfl
                have w607 : (u2 dt585 83 (((4 * (dt585 79 10)) + 3).toNat) (dt585 79 11)) 79 9 = dt585 79 9 := rfl
                have w608 : (u2 dt585 83 (((4 * (dt585 79 10)) + 3).toNat) (dt585 79 11)) 79 10 = dt585 79 10 := rfl
                have w609 : (u2 dt585 83 (((4 * (dt585 79 10)) + 3).toNat) (dt585 79 11)) 79 11 = dt585 79 11 := rfl
                have w610 : (u2 dt585 83 (((4 * (dt585 79 10)) + 3).toNat) (dt585 79 11)) 79 12 = dt585 79 12 := rfl
                have w611 : (u2 dt585 83 (((4 * (dt585 79 10)) + 3).toNat) (dt585 79 11)) 79 13 = dt585 79 13 := rfl
                have w612 : (u2 dt585 83 (((4 * (dt585 79 10)) + 3).toNat) (dt585 79 11)) 79 14 = dt585 79 14 := rfl
                have w613 : (u2 dt585 83 (((4 * (dt585 79 10)) + 3).toNat) (dt585 79 11)) 79 15 = dt585 79 15 := rfl
                have w614 : (u2 dt585 83 (((4 * (dt585 79 10)) + 3).toNat) (dt585 79 11)) 79 16 = dt585 79 16 := rfl
                have w615 : (u2 dt585 83 (((4 * (dt585 79 10)) + 3).toNat) (dt585 79 11)) 79 17 = dt585 79 17 := rfl
                have w616 : (u2 dt585 83 (((4 * (dt585 79 10)) + 3).toNat) (dt585 79 11)) 79 18 = dt585 79 18 := rfl
                have w617 : (u2 dt585 83 (((4 * (dt585 79 10)) + 3).toNat) (dt585 79 11)) 79 20 = dt585 79 20 := rfl
                have hc618 : CUR 1 b n (u2 dt585 83 (((4 * (dt585 79 10)) + 3).toNat) (dt585 79 11)) j591 := CUR_sm hc593 rfl rfl rfl rfl
                refine go_smp (L' := [some (.inr (.inr (some 79))), some (.inl 0)]) (st' := []) (w' := (SH, (u2 dt585 83 (((4 * (dt585 79 10)) + 3).toNat) (dt585 79 11)))) rfl rfl (s_iast (n := 64) rfl ⟨by omega, by omega⟩ ⟨by omega, by omega⟩) ?_
                refine go_to (k := 2) (pc' := 188) (L' := [some (.inr (.inr (some 79))), some (.inl 0)]) (st' := [.inl 159, .inr (.inr (some 79))]) (w' := (SH, (u2 dt585 83 (((4 * (dt585 79 10)) + 3).toNat) (dt585 79 11)))) (fun _ => rfl) ?_
                refine go_call (Q' := _) rfl rfl rfl rfl rfl (sp_X6_need0_g1 L xs sio (d + 29) (u2 dt585 83 (((4 * (dt585 79 10)) + 3).toNat) (dt585 79 11)) hI604 b n t j591 (by first | exact hbb | (rw [show (u2 dt585 83 (((4 * (dt585 79 10)) + 3).toNat) (dt585 79 11)) 85 = dt 85 from funext (hF605 85 (by decide)), show (u2 dt585 83 (((4 * (dt585 79 10)) + 3).toNat) (dt585 79 11)) 79 12 = dt 79 12 by omega]; exact hbb)) (by omega) hz ht hc618 hi595 hn5 159 ⟨by omega, by omega⟩ (by first | trivial | omega)) ?_
                rintro _ _ ⟨dt620, rfl, hI621, hF622, h619⟩
                refine ⟨rfl, ?_⟩
                have hF623 : Fr [79, 83, 84] dt dt620 := Fr_tr hF605 hF622 (by decide)
                rcases h619 with ⟨rfl, h619⟩ | ⟨rfl, h619⟩
                · skip
                  obtain ⟨h619_0, h619_1, h619_2, h619_3, h619_4⟩ := h619
                  have fl624 := RSX_0 h619_0 rfl
                  have fe625 : (gLF (KF 1 b n) (VF b n) (dt 79 10)) i = (gK (KF 1 b n) (159 - 100)) j591 := hp594.trans ((show (gK (KF 1 b n) 59) j591 = gB ((gK (KF 1 b n) (159 - 100)) j591) gOk by first | exact gB_id.symm | exact gL2_n (by omega)).trans (gB_no fl624.1))
                  refine go_ret (k := 1) (r := some (.inl 0)) (w1 := (SH, dt620)) (fun _ => rfl) ?_
                  exact ⟨dt620, rfl, hI621, hF623, (Or.inl ⟨rfl, ⟨by first | exact RSX_f fe625 fl624 (by omega) (by omega) | exact RSX_no (k := 1) (j := j591) (hp594.trans (by show gLF _ _ _ _ = _; unfold gLF; rw [if_pos (by omega)])) (by decide) (by omega) (by show _ = ((TP b n j591 : Nat) : Int); omega), by first | trivial | omega, by first | trivial | omega, by first | trivial | omega, by first | trivial | omega⟩⟩)⟩
                · skip
                  obtain ⟨h619_0, h619_1, h619_2, h619_3, h619_4, h619_5, h619_6, h619_7, h619_8, h619_9⟩ := h619
                  obtain ⟨j626, ej627, hc628⟩ := RSX_1 h619_0 (by decide)
                  have hp629 : (gLF (KF 1 b n) (VF b n) (dt 79 10)) i = gOk j626 := hp594.trans ((show (gK (KF 1 b n) 59) j591 = gB ((gK (KF 1 b n) (159 - 100)) j591) gOk by first | exact gB_id.symm | exact gL2_n (by omega)).trans (by rw [ej627]; rfl))
                  have hi630 : j626 ≤ t := by have z := (fun (h : KZ (KF 1 b n) t) => gK_M (K := (KF 1 b n)) (k := 159 - 100) (i := j591) h (by decide)) hz; rw [ej627] at z; have y := z rfl; simp only at y; omega
                  have cr631 := CUR_R hc628 (.inr rfl)
                  have cb632 := CUR_b hc628
                  have cv633 := CUR_v hc628
                  have ck634 := KZ_lt (i := j626) hz
                  have c1635 := (hc628).1
                  have ci636 := hi630
                  refine go_ret (k := 1) (r := some (.inl 1)) (w1 := (SH, dt620)) (fun _ => rfl) ?_
                  exact ⟨dt620, rfl, hI621, hF623, (Or.inr ⟨rfl, ⟨by exact RSX_ok (hp629.trans (by rfl)) hc628, by first | trivial | omega, by first | trivial | omega, by first | trivial | omega, by first | trivial | omega, by exact (InvC_get (by assumption) 79 15 rfl rfl).2, by first | trivial | omega, by first | trivial | omega, by first | trivial | omega, by first | trivial | omega, by first | trivial | omega⟩⟩)⟩
        · exfalso; omega
      · skip
        refine go_to (k := 2) (pc' := 35) (L' := [some (.inr (.inr (some 79))), none]) (st' := [.inl 3, .inr (.inr (some 79))]) (w' := (SH, dt)) (fun _ => rfl) ?_
        refine go_call (Q' := _) rfl rfl rfl rfl rfl (sp_X6_bad_g L xs sio (d + 36) dt hI  3 ⟨by omega, by omega⟩ ) ?_
        rintro _ _ ⟨dt638, rfl, hI639, hF640, h637⟩
        refine ⟨rfl, ?_⟩
        have hF641 : Fr [79, 83, 84] dt dt638 := Fr_tr hF hF640 (by decide)
        rcases h637 with ⟨rfl, h637⟩
        obtain ⟨h637_0, h637_1, h637_2, h637_3, h637_4, h637_5, h637_6, h637_7, h637_8, h637_9, h637_10, h637_11⟩ := h637
        have hc642 : CUR 1 b n dt638 i := CUR_sm hc (by omega) (by omega) (by omega) (by omega)
        refine go_ret (k := 1) (r := some (.inl 0)) (w1 := (SH, dt638)) (fun _ => rfl) ?_
        exact ⟨dt638, rfl, hI639, hF641, (Or.inl ⟨rfl, ⟨by first | exact RSX_f hI hI (by omega) (by omega) | exact RSX_no (k := 1) (j := i) ((rfl : (gLF (KF 1 b n) (VF b n) (dt 79 10)) i = (gLF (KF 1 b n) (VF b n) (dt 79 10)) i).trans (by show gLF _ _ _ _ = _; unfold gLF; rw [if_pos (by omega)])) (by decide) (by omega) (by show _ = ((TP b n i : Nat) : Int); omega), by first | trivial | omega, by first | trivial | omega, by first | trivial | omega, by first | trivial | omega⟩⟩)⟩
    · skip
      refine go_to (k := 2) (pc' := 20) (L' := [some (.inr (.inr (some 79))), none]) (st' := [.inl 1, .inr (.inr (some 79))]) (w' := (SH, dt)) (fun _ => rfl) ?_
      refine go_call (Q' := _) rfl rfl rfl rfl rfl (sp_X6_bad_g L xs sio (d + 36) dt hI  1 ⟨by omega, by omega⟩ ) ?_
      rintro _ _ ⟨dt644, rfl, hI645, hF646, h643⟩
      refine ⟨rfl, ?_⟩
      have hF647 : Fr [79, 83, 84] dt dt644 := Fr_tr hF hF646 (by decide)
      rcases h643 with ⟨rfl, h643⟩
      obtain ⟨h643_0, h643_1, h643_2, h643_3, h643_4, h643_5, h643_6, h643_7, h643_8, h643_9, h643_10, h643_11⟩ := h643
      have hc648 : CUR 1 b n dt644 i := CUR_sm hc (by omega) (by omega) (by omega) (by omega)
      refine go_ret (k := 1) (r := some (.inl 0)) (w1 := (SH, dt644)) (fun _ => rfl) ?_
      exact ⟨dt644, rfl, hI645, hF647, (Or.inl ⟨rfl, ⟨by first | exact RSX_f hI hI (by omega) (by omega) | exact RSX_no (k := 1) (j := i) ((rfl : (gLF (KF 1 b n) (VF b n) (dt 79 10)) i = (gLF (KF 1 b n) (VF b n) (dt 79 10)) i).trans (by show gLF _ _ _ _ = _; unfold gLF; rw [if_pos (by omega)])) (by decide) (by omega) (by show _ = ((TP b n i : Nat) : Int); omega), by first | trivial | omega, by first | trivial | omega, by first | trivial | omega, by first | trivial | omega⟩⟩)⟩
