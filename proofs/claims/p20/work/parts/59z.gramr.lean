set_option maxHeartbeats 1500000 in
set_option maxRecDepth 20000 in
theorem sp_X6_argument_g0 (L : Nat) (xs : Nat → Int32) (sio : Option Nat) (d : Nat) (dt : Nat → Nat → Int) (hI : InvC dt) (b : Nat → Int) (n t i : Nat) (hbb : mB (dt 85) (dt 79 12) = b) (hnn : dt 79 12 = (n : Int)) (hz : KZ (KF 0 b n) t) (ht : t ≤ 500) (hc : CUR 0 b n dt i) (hi : i ≤ t) (hn5 : n ≤ 500) (p1 : Int) (h_p1 : 1 ≤ p1 ∧ p1 ≤ 4) (p2 : Int) (h_p2 : 0 ≤ p2 ∧ p2 ≤ 3) (h_p0 : dt 79 9 = 0) (h_p1 : 0 ≤ dt 79 10 ∧ dt 79 10 ≤ 23) : GO (am_XX L xs sio) (d + 8) 171 0 [some (.inr (.inr (some 79))), some (.inl p1), some (.inl p2)] [] (SH, dt) (fun r w2 => ∃ dt2 : Nat → Nat → Int, w2 = (SH, dt2) ∧ InvC dt2 ∧ Fr [79, 82] dt dt2 ∧ ((r = some (.inl 0) ∧ (RSX 0 b n i dt2 0 ((gA (KF 0 b n) (VF b n) p2) i)) ∧ (dt2 79 2 = dt 79 2) ∧ (dt2 79 9 = dt 79 9) ∧ (dt2 79 10 = dt 79 10) ∧ (dt2 79 12 = dt 79 12)) ∨ (r = some (.inl 1) ∧ (RSX 0 b n i dt2 1 ((gA (KF 0 b n) (VF b n) p2) i)) ∧ (dt2 82 ((5 * (dt 79 10)) + p1).toNat = VF b n i) ∧ (∀ j : Nat, ¬ (j : Int) = 5 * dt 79 10 + p1 → dt2 82 j = dt 82 j) ∧ (dt 79 15 + 1 ≤ dt2 79 15) ∧ (dt2 79 15 ≤ 500) ∧ (dt2 79 2 = dt 79 2) ∧ (dt2 79 9 = dt 79 9) ∧ (dt2 79 10 = dt 79 10) ∧ (dt2 79 11 = dt 79 11) ∧ (dt2 79 12 = dt 79 12) ∧ (dt2 79 17 = dt 79 17) ∧ (dt2 79 20 = dt 79 20)))) := by
  have hF : Fr [79, 82] dt dt := Fr_refl
  have r1 : 0 ≤ dt 79 15 ∧ dt 79 15 ≤ 500 := InvC_get hI 79 15 rfl rfl
  have r2 : 0 ≤ dt 79 11 ∧ dt 79 11 ≤ 510 := InvC_get hI 79 11 rfl rfl
  have r3 : 0 ≤ dt 79 10 ∧ dt 79 10 ≤ 24 := InvC_get hI 79 10 rfl rfl
  have r4 : 0 ≤ dt 79 16 ∧ dt 79 16 ≤ 9999 := InvC_get hI 79 16 rfl rfl
  have cr0 := hid (CUR_R hc (.inl rfl))
  have cd0 := CUR_d (hc)
  have cb0 := hid (CUR_b hc)
  have cv0 := hid (CUR_v hc)
  have ck0 := hid (KZ_lt (i := i) hz)
  have c10 := hc.1
  refine go_toq PM171 (k := 10) (pc' := 16) (L' := [some (.inr (.inr (some 79))), some (.inl p1), some (.inl p2)]) (st' := [.inl (dt 79 16), .inl ((5 * (dt 79 10)) + p1), .inr (.inr (some 82))]) (w' := (SH, dt)) rfl ?_
  have hI5 : InvC (u2 dt 82 (((5 * (dt 79 10)) + p1).toNat) (dt 79 16)) := InvC_u2 hI (lo := -2147483648) (hi := 2147483647) rfl rfl rfl (by first | exact bnd1 r4 (by decide) | fail) (by first | exact bnd2 r4 (by decide) | fail)
  have hF6 : Fr [79, 82] dt (u2 dt 82 (((5 * (dt 79 10)) + p1).toNat) (dt 79 16)) := Fr_u2 hF (by decide)
  have w7 : (u2 dt 82 (((5 * (dt 79 10)) + p1).toNat) (dt 79 16)) 79 2 = dt 79 2 := rfl
  have w8 : (u2 dt 82 (((5 * (dt 79 10)) + p1).toNat) (dt 79 16)) 79 9 = dt 79 9 := rfl
  have w9 : (u2 dt 82 (((5 * (dt 79 10)) + p1).toNat) (dt 79 16)) 79 10 = dt 79 10 := rfl
  have w10 : (u2 dt 82 (((5 * (dt 79 10)) + p1).toNat) (dt 79 16)) 79 11 = dt 79 11 := rfl
  have w11 : (u2 dt 82 (((5 * (dt 79 10)) + p1).toNat) (dt 79 16)) 79 12 = dt 79 12 := rfl
  have w12 : (u2 dt 82 (((5 * (dt 79 10)) + p1).toNat) (dt 79 16)) 79 13 = dt 79 13 := rfl
  have w13 : (u2 dt 82 (((5 * (dt 79 10)) + p1).toNat) (dt 79 16)) 79 14 = dt 79 14 := rfl
  have w14 : (u2 dt 82 (((5 * (dt 79 10)) + p1).toNat) (dt 79 16)) 79 15 = dt 79 15 := rfl
  have w15 : (u2 dt 82 (((5 * (dt 79 10)) + p1).toNat) (dt 79 16)) 79 16 = dt 79 16 := rfl
  have w16 : (u2 dt 82 (((5 * (dt 79 10)) + p1).toNat) (dt 79 16)) 79 17 = dt 79 17 := rfl
  have w17 : (u2 dt 82 (((5 * (dt 79 10)) + p1).toNat) (dt 79 16)) 79 18 = dt 79 18 := rfl
  have w18 : (u2 dt 82 (((5 * (dt 79 10)) + p1).toNat) (dt 79 16)) 79 20 = dt 79 20 := rfl
  have hc19 : CUR 0 b n (u2 dt 82 (((5 * (dt 79 10)) + p1).toNat) (dt 79 16)) i := CUR_sm hc rfl rfl rfl rfl
  refine go_smpq PM171 (L' := [some (.inr (.inr (some 79))), some (.inl p1), some (.inl p2)]) (st' := []) (w' := (SH, (u2 dt 82 (((5 * (dt 79 10)) + p1).toNat) (dt 79 16)))) rfl rfl (s_iast (n := 120) rfl ⟨by omega, by omega⟩ (by first | exact bnd r4 (by decide) (by decide) | exact ⟨by fail, by fail⟩)) ?_
  refine go_toq PM171 (k := 3) (pc' := 20) (L' := [some (.inr (.inr (some 79))), some (.inl p1), some (.inl p2)]) (st' := [.inl p2, .inl 0, .inr (.inr (some 79))]) (w' := (SH, (u2 dt 82 (((5 * (dt 79 10)) + p1).toNat) (dt 79 16)))) rfl ?_
  refine go_callq PM171 PM162 (Q' := _) rfl rfl rfl rfl (sp_X6_number_g0a L xs sio (d + 0) (u2 dt 82 (((5 * (dt 79 10)) + p1).toNat) (dt 79 16)) hI5 b n t i (by first | exact hbb | (rw [show (u2 dt 82 (((5 * (dt 79 10)) + p1).toNat) (dt 79 16)) 85 = dt 85 from funext (hF6 85 (by decide)), show (u2 dt 82 (((5 * (dt 79 10)) + p1).toNat) (dt 79 16)) 79 12 = dt 79 12 by first | with_reducible assumption | exact unhid (by with_reducible assumption) | fail]; exact hbb)) (by first | with_reducible assumption | exact unhid (by with_reducible assumption) | exact Eq.trans (by with_reducible assumption) hnn | fail) hz ht hc19 hi hn5 p2 (by first | exact h_p2 | exact bnd h_p2 (by decide) (by decide) | exact ⟨by fail, by fail⟩) (by first | exact True.intro | with_reducible assumption | exact unhid (by with_reducible assumption) | rfl | omega | trivial)) ?_
  rintro _ _ ⟨dt21, rfl, hI22, hF23, h20⟩
  refine ⟨rfl, ?_⟩
  have hF24 : Fr [79, 82] dt dt21 := Fr_tr hF6 hF23 (by decide)
  rcases h20 with ⟨rfl, h20⟩ | ⟨rfl, h20⟩
  · skip
    obtain ⟨h20_0, h20_1, h20_2, h20_3, h20_4⟩ := h20
    have w25 : dt21 79 2 = dt 79 2 := h20_1.trans w7
    have w26 : dt21 79 9 = dt 79 9 := h20_2.trans w8
    have w27 : dt21 79 10 = dt 79 10 := h20_3.trans w9
    have w28 : dt21 79 12 = dt 79 12 := h20_4.trans w11
    have EQ29 : ∀ j, dt21 82 j = (u2 dt 82 (((5 * (dt 79 10)) + p1).toNat) (dt 79 16)) 82 j := fun j => hF23 82 (by decide) j
    have fl30 := RSX_0 h20_0 rfl
    have fe31 : (gA (KF 0 b n) (VF b n) p2) i = (gA (KF 0 b n) (VF b n) p2) i := (rfl : (gA (KF 0 b n) (VF b n) p2) i = (gA (KF 0 b n) (VF b n) p2) i).trans ((show (gA (KF 0 b n) (VF b n) p2) i = gB ((gA (KF 0 b n) (VF b n) p2) i) gOk by exact gB_id.symm).trans (gB_no fl30.1))
    clear h20_1 w7 h20_2 w8 h20_3 w9 h20_4 w11
    refine go_retq PM171 (k := 0) (r := some (.inl 0)) (w1 := (SH, dt21)) rfl ?_
    exact ⟨dt21, rfl, hI22, hF24, (Or.inl ⟨rfl, ⟨by exact RSX_f fe31 fl30 (by first | rfl | with_reducible assumption | exact unhid (by with_reducible assumption) | fail) (by first | rfl | with_reducible assumption | exact unhid (by with_reducible assumption) | fail), by first | exact True.intro | with_reducible assumption | exact unhid (by with_reducible assumption) | rfl | fail | trivial, by first | exact True.intro | with_reducible assumption | exact unhid (by with_reducible assumption) | rfl | fail | trivial, by first | exact True.intro | with_reducible assumption | exact unhid (by with_reducible assumption) | rfl | fail | trivial, by first | exact True.intro | with_reducible assumption | exact unhid (by with_reducible assumption) | rfl | fail | trivial⟩⟩)⟩
  · skip
    obtain ⟨h20_0, h20_1, h20_2, h20_3, h20_4, h20_5, h20_6, h20_7, h20_8, h20_9, h20_10⟩ := h20
    have w32 : dt21 79 2 = dt 79 2 := h20_4.trans w7
    have w33 : dt21 79 9 = dt 79 9 := h20_5.trans w8
    have w34 : dt21 79 10 = dt 79 10 := h20_6.trans w9
    have w35 : dt21 79 11 = dt 79 11 := h20_7.trans w10
    have w36 : dt21 79 12 = dt 79 12 := h20_8.trans w11
    have w37 : dt21 79 17 = dt 79 17 := h20_9.trans w16
    have w38 : dt21 79 20 = dt 79 20 := h20_10.trans w18
    have EQ39 : ∀ j, dt21 82 j = (u2 dt 82 (((5 * (dt 79 10)) + p1).toNat) (dt 79 16)) 82 j := fun j => hF23 82 (by decide) j
    obtain ⟨j40, ej41, hc42⟩ := RSX_1 h20_0 (by decide)
    have hp43 : (gA (KF 0 b n) (VF b n) p2) i = gOk j40 := (rfl : (gA (KF 0 b n) (VF b n) p2) i = (gA (KF 0 b n) (VF b n) p2) i).trans ((show (gA (KF 0 b n) (VF b n) p2) i = gB ((gA (KF 0 b n) (VF b n) p2) i) gOk by exact gB_id.symm).trans (by rw [ej41]; exact gB_0))
    have hi44 : j40 ≤ t := by have z := gA_M (K := (KF 0 b n)) (V := (VF b n)) (m := p2) (i := i) hz; rw [ej41] at z; have y := z rfl; simp only at y; omega
    clear cr0 cb0 cd0 cv0 ck0
    have cr45 := hid (CUR_R hc42 (.inl rfl))
    have cd46 := CUR_d (hc42)
    have cb46 := hid (CUR_b hc42)
    have cv47 := hid (CUR_v hc42)
    have ck48 := hid (KZ_lt (i := j40) hz)
    have c149 := (hc42).1
    have ci50 := hi44
    clear h20_4 w7 h20_5 w8 h20_6 w9 h20_7 w10 h20_8 w11 h20_9 w16 h20_10 w18
    refine go_retq PM171 (k := 0) (r := some (.inl 1)) (w1 := (SH, dt21)) rfl ?_
    exact ⟨dt21, rfl, hI22, hF24, (Or.inr ⟨rfl, ⟨by exact RSX_ok hp43 hc42, by rw [EQ39, u2_eq]; exact h20_1, by intro j hj; rw [EQ39 j]; exact u2_ne (by omega), by first | exact True.intro | with_reducible assumption | exact unhid (by with_reducible assumption) | rfl | omega | trivial, by exact (InvC_get (by assumption) 79 15 rfl rfl).2, by first | exact True.intro | with_reducible assumption | exact unhid (by with_reducible assumption) | rfl | fail | trivial, by first | exact True.intro | with_reducible assumption | exact unhid (by with_reducible assumption) | rfl | fail | trivial, by first | exact True.intro | with_reducible assumption | exact unhid (by with_reducible assumption) | rfl | fail | trivial, by first | exact True.intro | with_reducible assumption | exact unhid (by with_reducible assumption) | rfl | fail | trivial, by first | exact True.intro | with_reducible assumption | exact unhid (by with_reducible assumption) | rfl | fail | trivial, by first | exact True.intro | with_reducible assumption | exact unhid (by with_reducible assumption) | rfl | fail | trivial, by first | exact True.intro | with_reducible assumption | exact unhid (by with_reducible assumption) | rfl | fail | trivial⟩⟩)⟩
