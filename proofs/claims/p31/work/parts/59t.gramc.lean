theorem sp_X1_token_f (L : Nat) (xs : Nat → Int32) (sio : Option Nat) (d : Nat) (dt : Nat → Nat → Int) (hI : InvC dt) (K V S : Nat → Int) (t : Nat) (hz : KZ K t) (ht : t ≤ 500)  (h_p0 : TKc K V S t dt) (h_p1 : 0 ≤ dt 35 8 ∧ dt 35 8 ≤ (t : Int)) (h_p2 : ¬ dt 35 2 = 0 → dt 35 8 = (t : Int)) : GO (am_XX L xs sio) (d) 20 0 [some (.inr (.inr (some 35)))] [] (SH, dt) (fun r w2 => w2 = (SH, dt) ∧ ((∃ v : Int, r = some (.inl v) ∧ (0 ≤ v ∧ v ≤ 1100) ∧ (v = K (dt 35 8).toNat)))) := by
  replace h_p2 := hid h_p2
  have r1 : (-2147483648) ≤ dt 35 8 ∧ dt 35 8 ≤ 2147483647 := InvC_get hI 35 8 rfl rfl
  have r2 : 0 ≤ dt 35 7 ∧ dt 35 7 ≤ 501 := InvC_get hI 35 7 rfl rfl
  have h7 : dt 35 7 = (t : Int) + 1 := h_p0.1
  have hk0 := TKc_k h_p0 h_p1
  have hv0 := hid (TKc_v h_p0 h_p1)
  have hs0 := TKc_s h_p0 h_p1
  refine go_ifq PM20 (k := 2) (p1 := 30) (p2 := 7) (L' := [some (.inr (.inr (some 35)))]) (st' := []) (w' := (SH, dt)) rfl (z_lt (a := dt 35 8) (by first | exact bnd r1 (by decide) (by decide) | exact ⟨by fail, by fail⟩)) (fun c3 => ?_) (fun c3 => ?_)
  · skip
    refine go_retq PM20 (k := 1) (r := some (.inl 0)) (w1 := (SH, dt)) rfl ?_
    exact ⟨rfl, ⟨_, rfl, ⟨by decide, by decide⟩, by omega⟩⟩
  · skip
    refine go_ifq PM20 (k := 4) (p1 := 30) (p2 := 18) (L' := [some (.inr (.inr (some 35)))]) (st' := []) (w' := (SH, dt)) rfl (c_ge (a := dt 35 8) (b := dt 35 7) (by first | exact bnd r1 (by decide) (by decide) | exact ⟨by fail, by fail⟩) (by first | exact bnd r2 (by decide) (by decide) | exact ⟨by fail, by fail⟩)) (fun c4 => ?_) (fun c4 => ?_)
    · skip
      refine go_retq PM20 (k := 1) (r := some (.inl 0)) (w1 := (SH, dt)) rfl ?_
      exact ⟨rfl, ⟨_, rfl, ⟨by decide, by decide⟩, by omega⟩⟩
    · skip
      refine go_toq PM20 (k := 4) (pc' := 26) (L' := [some (.inr (.inr (some 35)))]) (st' := [.inl (dt 35 8), .inr (.inr (some 37))]) (w' := (SH, dt)) rfl ?_
      have r5 : 0 ≤ dt 37 ((dt 35 8).toNat) ∧ dt 37 ((dt 35 8).toNat) ≤ 1100 := InvC_get hI 37 ((dt 35 8).toNat) rfl rfl
      refine go_smpq PM20 (L' := [some (.inr (.inr (some 35)))]) (st' := [.inl (dt 37 ((dt 35 8).toNat))]) (w' := (SH, dt)) rfl rfl (s_iald (n := 501) (f := dt 37) rfl (by first | exact bndc r1 c4 (by decide) (by decide) | exact bndx r1 (by decide) (by decide) | exact ⟨by omega, by omega⟩)) ?_
      refine go_retq PM20 (k := 1) (r := some (.inl (dt 37 ((dt 35 8).toNat)))) (w1 := (SH, dt)) rfl ?_
      exact ⟨rfl, ⟨_, rfl, (by first | exact bnd r5 (by decide) (by decide) | exact ⟨by fail, by fail⟩), by omega⟩⟩
theorem sp_X1_nextNumber_f (L : Nat) (xs : Nat → Int32) (sio : Option Nat) (d : Nat) (dt : Nat → Nat → Int) (hI : InvC dt) (K V S : Nat → Int) (t : Nat) (hz : KZ K t) (ht : t ≤ 500)  (h_p0 : TKc K V S t dt) (h_p1 : 0 ≤ dt 35 8 ∧ dt 35 8 ≤ (t : Int)) (h_p2 : ¬ dt 35 2 = 0 → dt 35 8 = (t : Int)) : GO (am_XX L xs sio) (d) 23 0 [some (.inr (.inr (some 35)))] [] (SH, dt) (fun r w2 => w2 = (SH, dt) ∧ ((∃ v : Int, r = some (.inl v) ∧ (0 ≤ v ∧ v ≤ 9999) ∧ (K (dt 35 8).toNat = 2) ∧ (v = V (dt 35 8).toNat)) ∨ (r = some (.inl (-1)) ∧ (¬ K (dt 35 8).toNat = 2)))) := by
  replace h_p2 := hid h_p2
  have r1 : (-2147483648) ≤ dt 35 8 ∧ dt 35 8 ≤ 2147483647 := InvC_get hI 35 8 rfl rfl
  have r2 : 0 ≤ dt 35 7 ∧ dt 35 7 ≤ 501 := InvC_get hI 35 7 rfl rfl
  have h7 : dt 35 7 = (t : Int) + 1 := h_p0.1
  have hk0 := TKc_k h_p0 h_p1
  have hv0 := hid (TKc_v h_p0 h_p1)
  have hs0 := TKc_s h_p0 h_p1
  refine go_ifq PM23 (k := 2) (p1 := 43) (p2 := 7) (L' := [some (.inr (.inr (some 35)))]) (st' := []) (w' := (SH, dt)) rfl (z_lt (a := dt 35 8) (by first | exact bnd r1 (by decide) (by decide) | exact ⟨by fail, by fail⟩)) (fun c3 => ?_) (fun c3 => ?_)
  · skip
    refine go_retq PM23 (k := 1) (r := some (.inl (-1))) (w1 := (SH, dt)) rfl ?_
    first | exact ⟨rfl, (Or.inl ⟨_, rfl, ⟨by decide, by decide⟩, ⟨by first | exact True.intro | with_reducible assumption | exact unhid (by with_reducible assumption) | rfl | fail | trivial, by first | exact True.intro | with_reducible assumption | exact unhid (by with_reducible assumption) | rfl | fail | trivial⟩⟩)⟩ | exact ⟨rfl, (Or.inr ⟨rfl, by first | exact True.intro | with_reducible assumption | exact unhid (by with_reducible assumption) | rfl | omega | trivial⟩)⟩
  · skip
    refine go_ifq PM23 (k := 4) (p1 := 43) (p2 := 18) (L' := [some (.inr (.inr (some 35)))]) (st' := []) (w' := (SH, dt)) rfl (c_ge (a := dt 35 8) (b := dt 35 7) (by first | exact bnd r1 (by decide) (by decide) | exact ⟨by fail, by fail⟩) (by first | exact bnd r2 (by decide) (by decide) | exact ⟨by fail, by fail⟩)) (fun c4 => ?_) (fun c4 => ?_)
    · skip
      refine go_retq PM23 (k := 1) (r := some (.inl (-1))) (w1 := (SH, dt)) rfl ?_
      first | exact ⟨rfl, (Or.inl ⟨_, rfl, ⟨by decide, by decide⟩, ⟨by first | exact True.intro | with_reducible assumption | exact unhid (by with_reducible assumption) | rfl | fail | trivial, by first | exact True.intro | with_reducible assumption | exact unhid (by with_reducible assumption) | rfl | fail | trivial⟩⟩)⟩ | exact ⟨rfl, (Or.inr ⟨rfl, by first | exact True.intro | with_reducible assumption | exact unhid (by with_reducible assumption) | rfl | omega | trivial⟩)⟩
    · skip
      refine go_toq PM23 (k := 4) (pc' := 26) (L' := [some (.inr (.inr (some 35)))]) (st' := [.inl (dt 35 8), .inr (.inr (some 37))]) (w' := (SH, dt)) rfl ?_
      have r5 : 0 ≤ dt 37 ((dt 35 8).toNat) ∧ dt 37 ((dt 35 8).toNat) ≤ 1100 := InvC_get hI 37 ((dt 35 8).toNat) rfl rfl
      refine go_smpq PM23 (L' := [some (.inr (.inr (some 35)))]) (st' := [.inl (dt 37 ((dt 35 8).toNat))]) (w' := (SH, dt)) rfl rfl (s_iald (n := 501) (f := dt 37) rfl (by first | exact bndc r1 c4 (by decide) (by decide) | exact bndx r1 (by decide) (by decide) | exact ⟨by omega, by omega⟩)) ?_
      refine go_ifq PM23 (k := 1) (p1 := 43) (p2 := 31) (L' := [some (.inr (.inr (some 35)))]) (st' := []) (w' := (SH, dt)) rfl (c_ne (a := dt 37 ((dt 35 8).toNat)) (b := 2) (by first | exact bnd r5 (by decide) (by decide) | exact ⟨by fail, by fail⟩) ⟨by decide, by decide⟩) (fun c6 => ?_) (fun c6 => ?_)
      · skip
        replace c6 := hid c6
        refine go_retq PM23 (k := 1) (r := some (.inl (-1))) (w1 := (SH, dt)) rfl ?_
        first | exact ⟨rfl, (Or.inl ⟨_, rfl, ⟨by decide, by decide⟩, ⟨by first | exact True.intro | with_reducible assumption | exact unhid (by with_reducible assumption) | rfl | fail | trivial, by first | exact True.intro | with_reducible assumption | exact unhid (by with_reducible assumption) | rfl | fail | trivial⟩⟩)⟩ | exact ⟨rfl, (Or.inr ⟨rfl, by first | exact True.intro | with_reducible assumption | exact unhid (by with_reducible assumption) | rfl | (have z_ := unhid c6; omega) | trivial⟩)⟩
      · skip
        refine go_toq PM23 (k := 4) (pc' := 39) (L' := [some (.inr (.inr (some 35)))]) (st' := [.inl (dt 35 8), .inr (.inr (some 38))]) (w' := (SH, dt)) rfl ?_
        have r7 : (-2147483648) ≤ dt 38 ((dt 35 8).toNat) ∧ dt 38 ((dt 35 8).toNat) ≤ 2147483647 := InvC_get hI 38 ((dt 35 8).toNat) rfl rfl
        refine go_smpq PM23 (L' := [some (.inr (.inr (some 35)))]) (st' := [.inl (dt 38 ((dt 35 8).toNat))]) (w' := (SH, dt)) rfl rfl (s_iald (n := 501) (f := dt 38) rfl (by first | exact bndc r1 c4 (by decide) (by decide) | exact bndx r1 (by decide) (by decide) | exact ⟨by omega, by omega⟩)) ?_
        refine go_retq PM23 (k := 1) (r := some (.inl (dt 38 ((dt 35 8).toNat)))) (w1 := (SH, dt)) rfl ?_
        exact ⟨rfl, (Or.inl ⟨_, rfl, (by first | exact bnd r7 (by decide) (by decide) | exact ⟨by (have z_ := unhid hv0; omega), by (have z_ := unhid hv0; omega)⟩), ⟨by first | exact True.intro | with_reducible assumption | exact unhid (by with_reducible assumption) | rfl | omega | trivial, by first | exact True.intro | with_reducible assumption | exact unhid (by with_reducible assumption) | rfl | (have z_ := unhid hv0; omega) | trivial⟩⟩)⟩
theorem sp_X1_fail_f (L : Nat) (xs : Nat → Int32) (sio : Option Nat) (d : Nat) (dt : Nat → Nat → Int) (hI : InvC dt) (K V S : Nat → Int) (t : Nat) (hz : KZ K t) (ht : t ≤ 500) (p1 : Int) (h_p1 : 1 ≤ p1 ∧ p1 ≤ 3) (h_p0 : TKc K V S t dt) (h_p1 : 0 ≤ dt 35 8 ∧ dt 35 8 ≤ (t : Int)) (h_p2 : ¬ dt 35 2 = 0 → dt 35 8 = (t : Int)) : GO (am_XX L xs sio) (d) 21 0 [some (.inr (.inr (some 35))), some (.inl p1)] [] (SH, dt) (fun r w2 => ∃ dt2 : Nat → Nat → Int, w2 = (SH, dt2) ∧ InvC dt2 ∧ Fr [35] dt dt2 ∧ ((r = none ∧ (SPX S t dt dt2 (fun i => (p1, i))) ∧ (dt2 35 8 = (t : Int)) ∧ (¬ dt2 35 2 = 0) ∧ (dt2 35 1 = dt 35 1) ∧ (dt2 35 7 = dt 35 7) ∧ (dt2 35 12 = dt 35 12)))) := by
  replace h_p2 := hid h_p2
  have hF : Fr [35] dt dt := Fr_refl
  have r1 : (-2147483648) ≤ dt 35 8 ∧ dt 35 8 ≤ 2147483647 := InvC_get hI 35 8 rfl rfl
  have r2 : 0 ≤ dt 35 7 ∧ dt 35 7 ≤ 501 := InvC_get hI 35 7 rfl rfl
  have r3 : (-2147483648) ≤ dt 35 2 ∧ dt 35 2 ≤ 2147483647 := InvC_get hI 35 2 rfl rfl
  have h7 : dt 35 7 = (t : Int) + 1 := h_p0.1
  have hk0 := TKc_k h_p0 h_p1
  have hv0 := hid (TKc_v h_p0 h_p1)
  have hs0 := TKc_s h_p0 h_p1
  refine go_ifq PM21 (k := 2) (p1 := 47) (p2 := 7) (L' := [some (.inr (.inr (some 35))), some (.inl p1)]) (st' := []) (w' := (SH, dt)) rfl (z_ne (a := dt 35 2) (by first | exact bnd r3 (by decide) (by decide) | exact ⟨by fail, by fail⟩)) (fun c4 => ?_) (fun c4 => ?_)
  · skip
    replace c4 := hid c4
    refine go_ifq PM21 (k := 3) (p1 := 64) (p2 := 55) (L' := [some (.inr (.inr (some 35))), some (.inl p1)]) (st' := [.inr (.inr (some 35))]) (w' := (SH, dt)) rfl (z_le (a := dt 35 7) (by first | exact bnd r2 (by decide) (by decide) | exact ⟨by fail, by fail⟩)) (fun c5 => ?_) (fun c5 => ?_)
    · skip
      refine go_toq PM21 (k := 1) (pc' := 65) (L' := [some (.inr (.inr (some 35))), some (.inl p1)]) (st' := [.inl 0, .inr (.inr (some 35))]) (w' := (SH, dt)) rfl ?_
      have hI6 : InvC (u2 dt 35 8 0) := InvC_u2 hI (lo := -2147483648) (hi := 2147483647) rfl rfl rfl (by decide) (by decide)
      have hF7 : Fr [35] dt (u2 dt 35 8 0) := Fr_u2 hF (by decide)
      have w8 : (u2 dt 35 8 0) 35 1 = dt 35 1 := rfl
      have w9 : (u2 dt 35 8 0) 35 2 = dt 35 2 := rfl
      have w10 : (u2 dt 35 8 0) 35 3 = dt 35 3 := rfl
      have w11 : (u2 dt 35 8 0) 35 7 = dt 35 7 := rfl
      have w12 : (u2 dt 35 8 0) 35 8 = 0 := rfl
      have w13 : (u2 dt 35 8 0) 35 12 = dt 35 12 := rfl
      refine go_smpq PM21 (L' := [some (.inr (.inr (some 35))), some (.inl p1)]) (st' := []) (w' := (SH, (u2 dt 35 8 0))) rfl rfl (s_pf rfl rfl rfl rfl ⟨by decide, by decide⟩) ?_
      refine go_retq PM21 (k := 0) (r := none) (w1 := (SH, (u2 dt 35 8 0))) rfl ?_
      exact ⟨(u2 dt 35 8 0), rfl, hI6, hF7, ⟨rfl, ⟨by exact SPX_no (by omega) (fun z => ⟨by omega, by omega⟩) (fun z => ⟨by omega, by omega⟩) (by omega), by first | exact True.intro | with_reducible assumption | exact unhid (by with_reducible assumption) | rfl | omega | trivial, by first | exact True.intro | with_reducible assumption | exact unhid (by with_reducible assumption) | rfl | omega | trivial, by first | exact True.intro | with_reducible assumption | exact unhid (by with_reducible assumption) | rfl | fail | trivial, by first | exact True.intro | with_reducible assumption | exact unhid (by with_reducible assumption) | rfl | fail | trivial, by first | exact True.intro | with_reducible assumption | exact unhid (by with_reducible assumption) | rfl | fail | trivial⟩⟩⟩
    · skip
      refine go_toq PM21 (k := 5) (pc' := 65) (L' := [some (.inr (.inr (some 35))), some (.inl p1)]) (st' := [.inl ((dt 35 7) - 1), .inr (.inr (some 35))]) (w' := (SH, dt)) rfl ?_
      have hI14 : InvC (u2 dt 35 8 ((dt 35 7) - 1)) := InvC_u2 hI (lo := -2147483648) (hi := 2147483647) rfl rfl rfl (by omega) (by omega)
      have hF15 : Fr [35] dt (u2 dt 35 8 ((dt 35 7) - 1)) := Fr_u2 hF (by decide)
      have w16 : (u2 dt 35 8 ((dt 35 7) - 1)) 35 1 = dt 35 1 := rfl
      have w17 : (u2 dt 35 8 ((dt 35 7) - 1)) 35 2 = dt 35 2 := rfl
      have w18 : (u2 dt 35 8 ((dt 35 7) - 1)) 35 3 = dt 35 3 := rfl
      have w19 : (u2 dt 35 8 ((dt 35 7) - 1)) 35 7 = dt 35 7 := rfl
      have w20 : (u2 dt 35 8 ((dt 35 7) - 1)) 35 8 = (dt 35 7) - 1 := rfl
      have w21 : (u2 dt 35 8 ((dt 35 7) - 1)) 35 12 = dt 35 12 := rfl
      refine go_smpq PM21 (L' := [some (.inr (.inr (some 35))), some (.inl p1)]) (st' := []) (w' := (SH, (u2 dt 35 8 ((dt 35 7) - 1)))) rfl rfl (s_pf rfl rfl rfl rfl ⟨by omega, by omega⟩) ?_
      refine go_retq PM21 (k := 0) (r := none) (w1 := (SH, (u2 dt 35 8 ((dt 35 7) - 1)))) rfl ?_
      exact ⟨(u2 dt 35 8 ((dt 35 7) - 1)), rfl, hI14, hF15, ⟨rfl, ⟨by exact SPX_no (by omega) (fun z => ⟨by (have z_ := unhid c4; omega), by (have z_ := unhid c4; omega)⟩) (fun z => ⟨by omega, by omega⟩) (by omega), by first | exact True.intro | with_reducible assumption | exact unhid (by with_reducible assumption) | rfl | omega | trivial, by first | exact True.intro | with_reducible assumption | exact unhid (by with_reducible assumption) | rfl | (have z_ := unhid c4; omega) | trivial, by first | exact True.intro | with_reducible assumption | exact unhid (by with_reducible assumption) | rfl | fail | trivial, by first | exact True.intro | with_reducible assumption | exact unhid (by with_reducible assumption) | rfl | fail | trivial, by first | exact True.intro | with_reducible assumption | exact unhid (by with_reducible assumption) | rfl | fail | trivial⟩⟩⟩
  · skip
    refine go_toq PM21 (k := 2) (pc' := 9) (L' := [some (.inr (.inr (some 35))), some (.inl p1)]) (st' := [.inl p1, .inr (.inr (some 35))]) (w' := (SH, dt)) rfl ?_
    have hI22 : InvC (u2 dt 35 2 p1) := InvC_u2 hI (lo := -2147483648) (hi := 2147483647) rfl rfl rfl (by first | exact bnd1 h_p1 (by decide) | omega) (by first | exact bnd2 h_p1 (by decide) | omega)
    have hF23 : Fr [35] dt (u2 dt 35 2 p1) := Fr_u2 hF (by decide)
    have w24 : (u2 dt 35 2 p1) 35 1 = dt 35 1 := rfl
    have w25 : (u2 dt 35 2 p1) 35 2 = p1 := rfl
    have w26 : (u2 dt 35 2 p1) 35 3 = dt 35 3 := rfl
    have w27 : (u2 dt 35 2 p1) 35 7 = dt 35 7 := rfl
    have w28 : (u2 dt 35 2 p1) 35 8 = dt 35 8 := rfl
    have w29 : (u2 dt 35 2 p1) 35 12 = dt 35 12 := rfl
    refine go_smpq PM21 (L' := [some (.inr (.inr (some 35))), some (.inl p1)]) (st' := []) (w' := (SH, (u2 dt 35 2 p1))) rfl rfl (s_pf rfl rfl rfl rfl (by first | exact bnd h_p1 (by decide) (by decide) | exact ⟨by omega, by omega⟩)) ?_
    refine go_ifq PM21 (k := 3) (p1 := 43) (p2 := 20) (L' := [some (.inr (.inr (some 35))), some (.inl p1)]) (st' := [.inr (.inr (some 35))]) (w' := (SH, (u2 dt 35 2 p1))) rfl (z_lt (a := dt 35 8) (by first | exact bnd r1 (by decide) (by decide) | exact ⟨by fail, by fail⟩)) (fun c30 => ?_) (fun c30 => ?_)
    · skip
      refine go_toq PM21 (k := 1) (pc' := 44) (L' := [some (.inr (.inr (some 35))), some (.inl p1)]) (st' := [.inl (-1), .inr (.inr (some 35))]) (w' := (SH, (u2 dt 35 2 p1))) rfl ?_
      have hI31 : InvC (u2 (u2 dt 35 2 p1) 35 3 (-1)) := InvC_u2 hI22 (lo := -2147483648) (hi := 2147483647) rfl rfl rfl (by decide) (by decide)
      have hF32 : Fr [35] dt (u2 (u2 dt 35 2 p1) 35 3 (-1)) := Fr_u2 hF23 (by decide)
      have w33 : (u2 (u2 dt 35 2 p1) 35 3 (-1)) 35 1 = (u2 dt 35 2 p1) 35 1 := rfl
      have w34 : (u2 (u2 dt 35 2 p1) 35 3 (-1)) 35 2 = (u2 dt 35 2 p1) 35 2 := rfl
      have w35 : (u2 (u2 dt 35 2 p1) 35 3 (-1)) 35 3 = (-1) := rfl
      have w36 : (u2 (u2 dt 35 2 p1) 35 3 (-1)) 35 7 = (u2 dt 35 2 p1) 35 7 := rfl
      have w37 : (u2 (u2 dt 35 2 p1) 35 3 (-1)) 35 8 = (u2 dt 35 2 p1) 35 8 := rfl
      have w38 : (u2 (u2 dt 35 2 p1) 35 3 (-1)) 35 12 = (u2 dt 35 2 p1) 35 12 := rfl
      refine go_smpq PM21 (L' := [some (.inr (.inr (some 35))), some (.inl p1)]) (st' := []) (w' := (SH, (u2 (u2 dt 35 2 p1) 35 3 (-1)))) rfl rfl (s_pf rfl rfl rfl rfl ⟨by decide, by decide⟩) ?_
      refine go_ifq PM21 (k := 3) (p1 := 64) (p2 := 55) (L' := [some (.inr (.inr (some 35))), some (.inl p1)]) (st' := [.inr (.inr (some 35))]) (w' := (SH, (u2 (u2 dt 35 2 p1) 35 3 (-1)))) rfl (z_le (a := dt 35 7) (by first | exact bnd r2 (by decide) (by decide) | exact ⟨by fail, by fail⟩)) (fun c39 => ?_) (fun c39 => ?_)
      · skip
        refine go_toq PM21 (k := 1) (pc' := 65) (L' := [some (.inr (.inr (some 35))), some (.inl p1)]) (st' := [.inl 0, .inr (.inr (some 35))]) (w' := (SH, (u2 (u2 dt 35 2 p1) 35 3 (-1)))) rfl ?_
        have hI40 : InvC (u2 (u2 (u2 dt 35 2 p1) 35 3 (-1)) 35 8 0) := InvC_u2 hI31 (lo := -2147483648) (hi := 2147483647) rfl rfl rfl (by decide) (by decide)
        have hF41 : Fr [35] dt (u2 (u2 (u2 dt 35 2 p1) 35 3 (-1)) 35 8 0) := Fr_u2 hF32 (by decide)
        have w42 : (u2 (u2 (u2 dt 35 2 p1) 35 3 (-1)) 35 8 0) 35 1 = (u2 (u2 dt 35 2 p1) 35 3 (-1)) 35 1 := rfl
        have w43 : (u2 (u2 (u2 dt 35 2 p1) 35 3 (-1)) 35 8 0) 35 2 = (u2 (u2 dt 35 2 p1) 35 3 (-1)) 35 2 := rfl
        have w44 : (u2 (u2 (u2 dt 35 2 p1) 35 3 (-1)) 35 8 0) 35 3 = (u2 (u2 dt 35 2 p1) 35 3 (-1)) 35 3 := rfl
        have w45 : (u2 (u2 (u2 dt 35 2 p1) 35 3 (-1)) 35 8 0) 35 7 = (u2 (u2 dt 35 2 p1) 35 3 (-1)) 35 7 := rfl
        have w46 : (u2 (u2 (u2 dt 35 2 p1) 35 3 (-1)) 35 8 0) 35 8 = 0 := rfl
        have w47 : (u2 (u2 (u2 dt 35 2 p1) 35 3 (-1)) 35 8 0) 35 12 = (u2 (u2 dt 35 2 p1) 35 3 (-1)) 35 12 := rfl
        refine go_smpq PM21 (L' := [some (.inr (.inr (some 35))), some (.inl p1)]) (st' := []) (w' := (SH, (u2 (u2 (u2 dt 35 2 p1) 35 3 (-1)) 35 8 0))) rfl rfl (s_pf rfl rfl rfl rfl ⟨by decide, by decide⟩) ?_
        refine go_retq PM21 (k := 0) (r := none) (w1 := (SH, (u2 (u2 (u2 dt 35 2 p1) 35 3 (-1)) 35 8 0))) rfl ?_
        exact ⟨(u2 (u2 (u2 dt 35 2 p1) 35 3 (-1)) 35 8 0), rfl, hI40, hF41, ⟨rfl, ⟨by exact SPX_no (by omega) (fun z => ⟨by omega, by omega⟩) (fun z => ⟨by omega, by omega⟩) (by omega), by first | exact True.intro | with_reducible assumption | exact unhid (by with_reducible assumption) | rfl | omega | trivial, by first | exact True.intro | with_reducible assumption | exact unhid (by with_reducible assumption) | rfl | omega | trivial, by first | exact True.intro | with_reducible assumption | exact unhid (by with_reducible assumption) | rfl | fail | trivial, by first | exact True.intro | with_reducible assumption | exact unhid (by with_reducible assumption) | rfl | fail | trivial, by first | exact True.intro | with_reducible assumption | exact unhid (by with_reducible assumption) | rfl | fail | trivial⟩⟩⟩
      · skip
        refine go_toq PM21 (k := 5) (pc' := 65) (L' := [some (.inr (.inr (some 35))), some (.inl p1)]) (st' := [.inl ((dt 35 7) - 1), .inr (.inr (some 35))]) (w' := (SH, (u2 (u2 dt 35 2 p1) 35 3 (-1)))) rfl ?_
        have hI48 : InvC (u2 (u2 (u2 dt 35 2 p1) 35 3 (-1)) 35 8 ((dt 35 7) - 1)) := InvC_u2 hI31 (lo := -2147483648) (hi := 2147483647) rfl rfl rfl (by omega) (by omega)
        have hF49 : Fr [35] dt (u2 (u2 (u2 dt 35 2 p1) 35 3 (-1)) 35 8 ((dt 35 7) - 1)) := Fr_u2 hF32 (by decide)
        have w50 : (u2 (u2 (u2 dt 35 2 p1) 35 3 (-1)) 35 8 ((dt 35 7) - 1)) 35 1 = (u2 (u2 dt 35 2 p1) 35 3 (-1)) 35 1 := rfl
        have w51 : (u2 (u2 (u2 dt 35 2 p1) 35 3 (-1)) 35 8 ((dt 35 7) - 1)) 35 2 = (u2 (u2 dt 35 2 p1) 35 3 (-1)) 35 2 := rfl
        have w52 : (u2 (u2 (u2 dt 35 2 p1) 35 3 (-1)) 35 8 ((dt 35 7) - 1)) 35 3 = (u2 (u2 dt 35 2 p1) 35 3 (-1)) 35 3 := rfl
        have w53 : (u2 (u2 (u2 dt 35 2 p1) 35 3 (-1)) 35 8 ((dt 35 7) - 1)) 35 7 = (u2 (u2 dt 35 2 p1) 35 3 (-1)) 35 7 := rfl
        have w54 : (u2 (u2 (u2 dt 35 2 p1) 35 3 (-1)) 35 8 ((dt 35 7) - 1)) 35 8 = (dt 35 7) - 1 := rfl
        have w55 : (u2 (u2 (u2 dt 35 2 p1) 35 3 (-1)) 35 8 ((dt 35 7) - 1)) 35 12 = (u2 (u2 dt 35 2 p1) 35 3 (-1)) 35 12 := rfl
        refine go_smpq PM21 (L' := [some (.inr (.inr (some 35))), some (.inl p1)]) (st' := []) (w' := (SH, (u2 (u2 (u2 dt 35 2 p1) 35 3 (-1)) 35 8 ((dt 35 7) - 1)))) rfl rfl (s_pf rfl rfl rfl rfl ⟨by omega, by omega⟩) ?_
        refine go_retq PM21 (k := 0) (r := none) (w1 := (SH, (u2 (u2 (u2 dt 35 2 p1) 35 3 (-1)) 35 8 ((dt 35 7) - 1)))) rfl ?_
        exact ⟨(u2 (u2 (u2 dt 35 2 p1) 35 3 (-1)) 35 8 ((dt 35 7) - 1)), rfl, hI48, hF49, ⟨rfl, ⟨by exact SPX_no (by omega) (fun z => ⟨by omega, by omega⟩) (fun z => ⟨by omega, by omega⟩) (by omega), by first | exact True.intro | with_reducible assumption | exact unhid (by with_reducible assumption) | rfl | omega | trivial, by first | exact True.intro | with_reducible assumption | exact unhid (by with_reducible assumption) | rfl | omega | trivial, by first | exact True.intro | with_reducible assumption | exact unhid (by with_reducible assumption) | rfl | fail | trivial, by first | exact True.intro | with_reducible assumption | exact unhid (by with_reducible assumption) | rfl | fail | trivial, by first | exact True.intro | with_reducible assumption | exact unhid (by with_reducible assumption) | rfl | fail | trivial⟩⟩⟩
    · skip
      refine go_ifq PM21 (k := 4) (p1 := 43) (p2 := 31) (L' := [some (.inr (.inr (some 35))), some (.inl p1)]) (st' := [.inr (.inr (some 35))]) (w' := (SH, (u2 dt 35 2 p1))) rfl (c_ge (a := dt 35 8) (b := dt 35 7) (by first | exact bnd r1 (by decide) (by decide) | exact ⟨by fail, by fail⟩) (by first | exact bnd r2 (by decide) (by decide) | exact ⟨by fail, by fail⟩)) (fun c56 => ?_) (fun c56 => ?_)
      · skip
        refine go_toq PM21 (k := 1) (pc' := 44) (L' := [some (.inr (.inr (some 35))), some (.inl p1)]) (st' := [.inl (-1), .inr (.inr (some 35))]) (w' := (SH, (u2 dt 35 2 p1))) rfl ?_
        have hI57 : InvC (u2 (u2 dt 35 2 p1) 35 3 (-1)) := InvC_u2 hI22 (lo := -2147483648) (hi := 2147483647) rfl rfl rfl (by decide) (by decide)
        have hF58 : Fr [35] dt (u2 (u2 dt 35 2 p1) 35 3 (-1)) := Fr_u2 hF23 (by decide)
        have w59 : (u2 (u2 dt 35 2 p1) 35 3 (-1)) 35 1 = (u2 dt 35 2 p1) 35 1 := rfl
        have w60 : (u2 (u2 dt 35 2 p1) 35 3 (-1)) 35 2 = (u2 dt 35 2 p1) 35 2 := rfl
        have w61 : (u2 (u2 dt 35 2 p1) 35 3 (-1)) 35 3 = (-1) := rfl
        have w62 : (u2 (u2 dt 35 2 p1) 35 3 (-1)) 35 7 = (u2 dt 35 2 p1) 35 7 := rfl
        have w63 : (u2 (u2 dt 35 2 p1) 35 3 (-1)) 35 8 = (u2 dt 35 2 p1) 35 8 := rfl
        have w64 : (u2 (u2 dt 35 2 p1) 35 3 (-1)) 35 12 = (u2 dt 35 2 p1) 35 12 := rfl
        refine go_smpq PM21 (L' := [some (.inr (.inr (some 35))), some (.inl p1)]) (st' := []) (w' := (SH, (u2 (u2 dt 35 2 p1) 35 3 (-1)))) rfl rfl (s_pf rfl rfl rfl rfl ⟨by decide, by decide⟩) ?_
        refine go_ifq PM21 (k := 3) (p1 := 64) (p2 := 55) (L' := [some (.inr (.inr (some 35))), some (.inl p1)]) (st' := [.inr (.inr (some 35))]) (w' := (SH, (u2 (u2 dt 35 2 p1) 35 3 (-1)))) rfl (z_le (a := dt 35 7) (by first | exact bnd r2 (by decide) (by decide) | exact ⟨by fail, by fail⟩)) (fun c65 => ?_) (fun c65 => ?_)
        · skip
          refine go_toq PM21 (k := 1) (pc' := 65) (L' := [some (.inr (.inr (some 35))), some (.inl p1)]) (st' := [.inl 0, .inr (.inr (some 35))]) (w' := (SH, (u2 (u2 dt 35 2 p1) 35 3 (-1)))) rfl ?_
          have hI66 : InvC (u2 (u2 (u2 dt 35 2 p1) 35 3 (-1)) 35 8 0) := InvC_u2 hI57 (lo := -2147483648) (hi := 2147483647) rfl rfl rfl (by decide) (by decide)
          have hF67 : Fr [35] dt (u2 (u2 (u2 dt 35 2 p1) 35 3 (-1)) 35 8 0) := Fr_u2 hF58 (by decide)
          have w68 : (u2 (u2 (u2 dt 35 2 p1) 35 3 (-1)) 35 8 0) 35 1 = (u2 (u2 dt 35 2 p1) 35 3 (-1)) 35 1 := rfl
          have w69 : (u2 (u2 (u2 dt 35 2 p1) 35 3 (-1)) 35 8 0) 35 2 = (u2 (u2 dt 35 2 p1) 35 3 (-1)) 35 2 := rfl
          have w70 : (u2 (u2 (u2 dt 35 2 p1) 35 3 (-1)) 35 8 0) 35 3 = (u2 (u2 dt 35 2 p1) 35 3 (-1)) 35 3 := rfl
          have w71 : (u2 (u2 (u2 dt 35 2 p1) 35 3 (-1)) 35 8 0) 35 7 = (u2 (u2 dt 35 2 p1) 35 3 (-1)) 35 7 := rfl
          have w72 : (u2 (u2 (u2 dt 35 2 p1) 35 3 (-1)) 35 8 0) 35 8 = 0 := rfl
          have w73 : (u2 (u2 (u2 dt 35 2 p1) 35 3 (-1)) 35 8 0) 35 12 = (u2 (u2 dt 35 2 p1) 35 3 (-1)) 35 12 := rfl
          refine go_smpq PM21 (L' := [some (.inr (.inr (some 35))), some (.inl p1)]) (st' := []) (w' := (SH, (u2 (u2 (u2 dt 35 2 p1) 35 3 (-1)) 35 8 0))) rfl rfl (s_pf rfl rfl rfl rfl ⟨by decide, by decide⟩) ?_
          refine go_retq PM21 (k := 0) (r := none) (w1 := (SH, (u2 (u2 (u2 dt 35 2 p1) 35 3 (-1)) 35 8 0))) rfl ?_
          exact ⟨(u2 (u2 (u2 dt 35 2 p1) 35 3 (-1)) 35 8 0), rfl, hI66, hF67, ⟨rfl, ⟨by exact SPX_no (by omega) (fun z => ⟨by omega, by omega⟩) (fun z => ⟨by omega, by omega⟩) (by omega), by first | exact True.intro | with_reducible assumption | exact unhid (by with_reducible assumption) | rfl | omega | trivial, by first | exact True.intro | with_reducible assumption | exact unhid (by with_reducible assumption) | rfl | omega | trivial, by first | exact True.intro | with_reducible assumption | exact unhid (by with_reducible assumption) | rfl | fail | trivial, by first | exact True.intro | with_reducible assumption | exact unhid (by with_reducible assumption) | rfl | fail | trivial, by first | exact True.intro | with_reducible assumption | exact unhid (by with_reducible assumption) | rfl | fail | trivial⟩⟩⟩
        · skip
          refine go_toq PM21 (k := 5) (pc' := 65) (L' := [some (.inr (.inr (some 35))), some (.inl p1)]) (st' := [.inl ((dt 35 7) - 1), .inr (.inr (some 35))]) (w' := (SH, (u2 (u2 dt 35 2 p1) 35 3 (-1)))) rfl ?_
          have hI74 : InvC (u2 (u2 (u2 dt 35 2 p1) 35 3 (-1)) 35 8 ((dt 35 7) - 1)) := InvC_u2 hI57 (lo := -2147483648) (hi := 2147483647) rfl rfl rfl (by omega) (by omega)
          have hF75 : Fr [35] dt (u2 (u2 (u2 dt 35 2 p1) 35 3 (-1)) 35 8 ((dt 35 7) - 1)) := Fr_u2 hF58 (by decide)
          have w76 : (u2 (u2 (u2 dt 35 2 p1) 35 3 (-1)) 35 8 ((dt 35 7) - 1)) 35 1 = (u2 (u2 dt 35 2 p1) 35 3 (-1)) 35 1 := rfl
          have w77 : (u2 (u2 (u2 dt 35 2 p1) 35 3 (-1)) 35 8 ((dt 35 7) - 1)) 35 2 = (u2 (u2 dt 35 2 p1) 35 3 (-1)) 35 2 := rfl
          have w78 : (u2 (u2 (u2 dt 35 2 p1) 35 3 (-1)) 35 8 ((dt 35 7) - 1)) 35 3 = (u2 (u2 dt 35 2 p1) 35 3 (-1)) 35 3 := rfl
          have w79 : (u2 (u2 (u2 dt 35 2 p1) 35 3 (-1)) 35 8 ((dt 35 7) - 1)) 35 7 = (u2 (u2 dt 35 2 p1) 35 3 (-1)) 35 7 := rfl
          have w80 : (u2 (u2 (u2 dt 35 2 p1) 35 3 (-1)) 35 8 ((dt 35 7) - 1)) 35 8 = (dt 35 7) - 1 := rfl
          have w81 : (u2 (u2 (u2 dt 35 2 p1) 35 3 (-1)) 35 8 ((dt 35 7) - 1)) 35 12 = (u2 (u2 dt 35 2 p1) 35 3 (-1)) 35 12 := rfl
          refine go_smpq PM21 (L' := [some (.inr (.inr (some 35))), some (.inl p1)]) (st' := []) (w' := (SH, (u2 (u2 (u2 dt 35 2 p1) 35 3 (-1)) 35 8 ((dt 35 7) - 1)))) rfl rfl (s_pf rfl rfl rfl rfl ⟨by omega, by omega⟩) ?_
          refine go_retq PM21 (k := 0) (r := none) (w1 := (SH, (u2 (u2 (u2 dt 35 2 p1) 35 3 (-1)) 35 8 ((dt 35 7) - 1)))) rfl ?_
          exact ⟨(u2 (u2 (u2 dt 35 2 p1) 35 3 (-1)) 35 8 ((dt 35 7) - 1)), rfl, hI74, hF75, ⟨rfl, ⟨by exact SPX_no (by omega) (fun z => ⟨by omega, by omega⟩) (fun z => ⟨by omega, by omega⟩) (by omega), by first | exact True.intro | with_reducible assumption | exact unhid (by with_reducible assumption) | rfl | omega | trivial, by first | exact True.intro | with_reducible assumption | exact unhid (by with_reducible assumption) | rfl | omega | trivial, by first | exact True.intro | with_reducible assumption | exact unhid (by with_reducible assumption) | rfl | fail | trivial, by first | exact True.intro | with_reducible assumption | exact unhid (by with_reducible assumption) | rfl | fail | trivial, by first | exact True.intro | with_reducible assumption | exact unhid (by with_reducible assumption) | rfl | fail | trivial⟩⟩⟩
      · skip
        refine go_toq PM21 (k := 4) (pc' := 39) (L' := [some (.inr (.inr (some 35))), some (.inl p1)]) (st' := [.inl (dt 35 8), .inr (.inr (some 39)), .inr (.inr (some 35))]) (w' := (SH, (u2 dt 35 2 p1))) rfl ?_
        have r82 : (-2147483648) ≤ dt 39 ((dt 35 8).toNat) ∧ dt 39 ((dt 35 8).toNat) ≤ 2147483647 := InvC_get hI 39 ((dt 35 8).toNat) rfl rfl
        refine go_smpq PM21 (L' := [some (.inr (.inr (some 35))), some (.inl p1)]) (st' := [.inl (dt 39 ((dt 35 8).toNat)), .inr (.inr (some 35))]) (w' := (SH, (u2 dt 35 2 p1))) rfl rfl (s_iald (n := 501) (f := (u2 dt 35 2 p1) 39) rfl (by first | exact bndc r1 c56 (by decide) (by decide) | exact bndx r1 (by decide) (by decide) | exact ⟨by omega, by omega⟩)) ?_
        refine go_toq PM21 (k := 1) (pc' := 44) (L' := [some (.inr (.inr (some 35))), some (.inl p1)]) (st' := [.inl (dt 39 ((dt 35 8).toNat)), .inr (.inr (some 35))]) (w' := (SH, (u2 dt 35 2 p1))) rfl ?_
        have hI83 : InvC (u2 (u2 dt 35 2 p1) 35 3 (dt 39 ((dt 35 8).toNat))) := InvC_u2 hI22 (lo := -2147483648) (hi := 2147483647) rfl rfl rfl (by first | exact bnd1 r82 (by decide) | fail) (by first | exact bnd2 r82 (by decide) | fail)
        have hF84 : Fr [35] dt (u2 (u2 dt 35 2 p1) 35 3 (dt 39 ((dt 35 8).toNat))) := Fr_u2 hF23 (by decide)
        have w85 : (u2 (u2 dt 35 2 p1) 35 3 (dt 39 ((dt 35 8).toNat))) 35 1 = (u2 dt 35 2 p1) 35 1 := rfl
        have w86 : (u2 (u2 dt 35 2 p1) 35 3 (dt 39 ((dt 35 8).toNat))) 35 2 = (u2 dt 35 2 p1) 35 2 := rfl
        have w87 : (u2 (u2 dt 35 2 p1) 35 3 (dt 39 ((dt 35 8).toNat))) 35 3 = dt 39 ((dt 35 8).toNat) := rfl
        have w88 : (u2 (u2 dt 35 2 p1) 35 3 (dt 39 ((dt 35 8).toNat))) 35 7 = (u2 dt 35 2 p1) 35 7 := rfl
        have w89 : (u2 (u2 dt 35 2 p1) 35 3 (dt 39 ((dt 35 8).toNat))) 35 8 = (u2 dt 35 2 p1) 35 8 := rfl
        have w90 : (u2 (u2 dt 35 2 p1) 35 3 (dt 39 ((dt 35 8).toNat))) 35 12 = (u2 dt 35 2 p1) 35 12 := rfl
        refine go_smpq PM21 (L' := [some (.inr (.inr (some 35))), some (.inl p1)]) (st' := []) (w' := (SH, (u2 (u2 dt 35 2 p1) 35 3 (dt 39 ((dt 35 8).toNat))))) rfl rfl (s_pf rfl rfl rfl rfl (by first | exact bnd r82 (by decide) (by decide) | exact ⟨by fail, by fail⟩)) ?_
        refine go_ifq PM21 (k := 3) (p1 := 64) (p2 := 55) (L' := [some (.inr (.inr (some 35))), some (.inl p1)]) (st' := [.inr (.inr (some 35))]) (w' := (SH, (u2 (u2 dt 35 2 p1) 35 3 (dt 39 ((dt 35 8).toNat))))) rfl (z_le (a := dt 35 7) (by first | exact bnd r2 (by decide) (by decide) | exact ⟨by fail, by fail⟩)) (fun c91 => ?_) (fun c91 => ?_)
        · exfalso; omega
        · skip
          refine go_toq PM21 (k := 5) (pc' := 65) (L' := [some (.inr (.inr (some 35))), some (.inl p1)]) (st' := [.inl ((dt 35 7) - 1), .inr (.inr (some 35))]) (w' := (SH, (u2 (u2 dt 35 2 p1) 35 3 (dt 39 ((dt 35 8).toNat))))) rfl ?_
          have hI92 : InvC (u2 (u2 (u2 dt 35 2 p1) 35 3 (dt 39 ((dt 35 8).toNat))) 35 8 ((dt 35 7) - 1)) := InvC_u2 hI83 (lo := -2147483648) (hi := 2147483647) rfl rfl rfl (by omega) (by omega)
          have hF93 : Fr [35] dt (u2 (u2 (u2 dt 35 2 p1) 35 3 (dt 39 ((dt 35 8).toNat))) 35 8 ((dt 35 7) - 1)) := Fr_u2 hF84 (by decide)
          have w94 : (u2 (u2 (u2 dt 35 2 p1) 35 3 (dt 39 ((dt 35 8).toNat))) 35 8 ((dt 35 7) - 1)) 35 1 = (u2 (u2 dt 35 2 p1) 35 3 (dt 39 ((dt 35 8).toNat))) 35 1 := rfl
          have w95 : (u2 (u2 (u2 dt 35 2 p1) 35 3 (dt 39 ((dt 35 8).toNat))) 35 8 ((dt 35 7) - 1)) 35 2 = (u2 (u2 dt 35 2 p1) 35 3 (dt 39 ((dt 35 8).toNat))) 35 2 := rfl
          have w96 : (u2 (u2 (u2 dt 35 2 p1) 35 3 (dt 39 ((dt 35 8).toNat))) 35 8 ((dt 35 7) - 1)) 35 3 = (u2 (u2 dt 35 2 p1) 35 3 (dt 39 ((dt 35 8).toNat))) 35 3 := rfl
          have w97 : (u2 (u2 (u2 dt 35 2 p1) 35 3 (dt 39 ((dt 35 8).toNat))) 35 8 ((dt 35 7) - 1)) 35 7 = (u2 (u2 dt 35 2 p1) 35 3 (dt 39 ((dt 35 8).toNat))) 35 7 := rfl
          have w98 : (u2 (u2 (u2 dt 35 2 p1) 35 3 (dt 39 ((dt 35 8).toNat))) 35 8 ((dt 35 7) - 1)) 35 8 = (dt 35 7) - 1 := rfl
          have w99 : (u2 (u2 (u2 dt 35 2 p1) 35 3 (dt 39 ((dt 35 8).toNat))) 35 8 ((dt 35 7) - 1)) 35 12 = (u2 (u2 dt 35 2 p1) 35 3 (dt 39 ((dt 35 8).toNat))) 35 12 := rfl
          refine go_smpq PM21 (L' := [some (.inr (.inr (some 35))), some (.inl p1)]) (st' := []) (w' := (SH, (u2 (u2 (u2 dt 35 2 p1) 35 3 (dt 39 ((dt 35 8).toNat))) 35 8 ((dt 35 7) - 1)))) rfl rfl (s_pf rfl rfl rfl rfl ⟨by omega, by omega⟩) ?_
          refine go_retq PM21 (k := 0) (r := none) (w1 := (SH, (u2 (u2 (u2 dt 35 2 p1) 35 3 (dt 39 ((dt 35 8).toNat))) 35 8 ((dt 35 7) - 1)))) rfl ?_
          exact ⟨(u2 (u2 (u2 dt 35 2 p1) 35 3 (dt 39 ((dt 35 8).toNat))) 35 8 ((dt 35 7) - 1)), rfl, hI92, hF93, ⟨rfl, ⟨by exact SPX_no (by omega) (fun z => ⟨by omega, by omega⟩) (fun z => ⟨by omega, by omega⟩) (by omega), by first | exact True.intro | with_reducible assumption | exact unhid (by with_reducible assumption) | rfl | omega | trivial, by first | exact True.intro | with_reducible assumption | exact unhid (by with_reducible assumption) | rfl | omega | trivial, by first | exact True.intro | with_reducible assumption | exact unhid (by with_reducible assumption) | rfl | fail | trivial, by first | exact True.intro | with_reducible assumption | exact unhid (by with_reducible assumption) | rfl | fail | trivial, by first | exact True.intro | with_reducible assumption | exact unhid (by with_reducible assumption) | rfl | fail | trivial⟩⟩⟩
theorem sp_X1_skip_f (L : Nat) (xs : Nat → Int32) (sio : Option Nat) (d : Nat) (dt : Nat → Nat → Int) (hI : InvC dt) (K V S : Nat → Int) (t : Nat) (hz : KZ K t) (ht : t ≤ 500) (p1 : Int) (h_p1 : 1 ≤ p1 ∧ p1 ≤ 1100) (h_p0 : TKc K V S t dt) (h_p1 : 0 ≤ dt 35 8 ∧ dt 35 8 ≤ (t : Int)) (h_p2 : ¬ dt 35 2 = 0 → dt 35 8 = (t : Int)) : GO (am_XX L xs sio) (d + 1) 22 0 [some (.inr (.inr (some 35))), some (.inl p1)] [] (SH, dt) (fun r w2 => ∃ dt2 : Nat → Nat → Int, w2 = (SH, dt2) ∧ InvC dt2 ∧ Fr [35] dt dt2 ∧ ((r = none ∧ (SPX S t dt dt2 (gK K p1)) ∧ (0 ≤ dt2 35 8 ∧ dt2 35 8 ≤ (t : Int)) ∧ (¬ dt2 35 2 = 0 → dt2 35 8 = (t : Int)) ∧ (dt 35 8 ≤ dt2 35 8) ∧ (dt2 35 1 = dt 35 1) ∧ (dt2 35 7 = dt 35 7) ∧ (dt2 35 12 = dt 35 12)))) := by
  replace h_p2 := hid h_p2
  have hF : Fr [35] dt dt := Fr_refl
  have h7 : dt 35 7 = (t : Int) + 1 := h_p0.1
  have hk0 := TKc_k h_p0 h_p1
  have hv0 := hid (TKc_v h_p0 h_p1)
  have hs0 := TKc_s h_p0 h_p1
  refine go_toq PM22 (k := 1) (pc' := 1) (L' := [some (.inr (.inr (some 35))), some (.inl p1)]) (st' := [.inr (.inr (some 35))]) (w' := (SH, dt)) rfl ?_
  refine go_callq PM22 PM20 (Q' := _) rfl rfl rfl rfl (sp_X1_token_f L xs sio (d + 0) dt hI K V S t hz ht  (by first | with_reducible assumption | exact unhid (by with_reducible assumption) | exact TKc_fr h_p0 hF (by decide) (by decide) (by decide) (by fail) | fail) (by first | with_reducible assumption | exact unhid (by with_reducible assumption) | exact TKc_fr h_p0 hF (by decide) (by decide) (by decide) (by fail) | fail) (by first | with_reducible assumption | exact unhid (by with_reducible assumption) | exact TKc_fr h_p0 hF (by decide) (by decide) (by decide) (by fail) | fail)) ?_
  rintro _ _ ⟨rfl, h1⟩
  refine ⟨rfl, ?_⟩
  rcases h1 with ⟨v_h1, rfl, h1r, h1⟩
  refine go_ifq PM22 (k := 1) (p1 := 21) (p2 := 8) (L' := [some (.inr (.inr (some 35))), some (.inl p1)]) (st' := []) (w' := (SH, dt)) rfl (c_ne (a := v_h1) (b := p1) (by first | exact bnd h1r (by decide) (by decide) | exact ⟨by fail, by fail⟩) (by first | exact bnd h_p1 (by decide) (by decide) | exact ⟨by omega, by omega⟩)) (fun c3 => ?_) (fun c3 => ?_)
  · skip
    replace c3 := hid c3
    refine go_toq PM22 (k := 2) (pc' := 23) (L' := [some (.inr (.inr (some 35))), some (.inl p1)]) (st' := [.inl 1, .inr (.inr (some 35))]) (w' := (SH, dt)) rfl ?_
    refine go_callq PM22 PM21 (Q' := _) rfl rfl rfl rfl (sp_X1_fail_f L xs sio (d + 0) dt hI K V S t hz ht 1 ⟨by decide, by decide⟩ (by first | with_reducible assumption | exact unhid (by with_reducible assumption) | exact TKc_fr h_p0 hF (by decide) (by decide) (by decide) (by fail) | fail) (by first | with_reducible assumption | exact unhid (by with_reducible assumption) | exact TKc_fr h_p0 hF (by decide) (by decide) (by decide) (by fail) | fail) (by first | with_reducible assumption | exact unhid (by with_reducible assumption) | exact TKc_fr h_p0 hF (by decide) (by decide) (by decide) (by fail) | fail)) ?_
    rintro _ _ ⟨dt5, rfl, hI6, hF7, h4⟩
    refine ⟨rfl, ?_⟩
    have hF8 : Fr [35] dt dt5 := Fr_tr hF hF7 (by decide)
    rcases h4 with ⟨rfl, h4⟩
    obtain ⟨h4_0, h4_1, h4_2, h4_3, h4_4, h4_5⟩ := h4
    replace h4_2 := hid h4_2
    have X9 : PX S t (gK K p1) gOk dt dt5 := PX_st PX_0 h4_0 (fun hl => by first | exact (by unfold gK; rw [if_neg (by (have z_ := unhid c3; omega))] : _ = ((1 : Int), (dt 35 8).toNat)).trans (gB_no (by show ¬ ((1 : Int) = 0); omega)).symm | (exfalso; fail))
    refine go_retq PM22 (k := 0) (r := none) (w1 := (SH, dt5)) rfl ?_
    exact ⟨dt5, rfl, hI6, hF8, ⟨rfl, ⟨by exact PX_e X9 (by omega), by first | exact True.intro | with_reducible assumption | exact unhid (by with_reducible assumption) | rfl | omega | trivial, by first | exact True.intro | with_reducible assumption | exact unhid (by with_reducible assumption) | rfl | omega | trivial, by first | exact True.intro | with_reducible assumption | exact unhid (by with_reducible assumption) | rfl | omega | trivial, by first | exact True.intro | with_reducible assumption | exact unhid (by with_reducible assumption) | rfl | fail | trivial, by first | exact True.intro | with_reducible assumption | exact unhid (by with_reducible assumption) | rfl | fail | trivial, by first | exact True.intro | with_reducible assumption | exact unhid (by with_reducible assumption) | rfl | fail | trivial⟩⟩⟩
  · skip
    refine go_toq PM22 (k := 5) (pc' := 15) (L' := [some (.inr (.inr (some 35))), some (.inl p1)]) (st' := [.inl ((dt 35 8) + 1), .inr (.inr (some 35))]) (w' := (SH, dt)) rfl ?_
    have hI10 : InvC (u2 dt 35 8 ((dt 35 8) + 1)) := InvC_u2 hI (lo := -2147483648) (hi := 2147483647) rfl rfl rfl (by omega) (by omega)
    have hF11 : Fr [35] dt (u2 dt 35 8 ((dt 35 8) + 1)) := Fr_u2 hF (by decide)
    have w12 : (u2 dt 35 8 ((dt 35 8) + 1)) 35 1 = dt 35 1 := rfl
    have w13 : (u2 dt 35 8 ((dt 35 8) + 1)) 35 2 = dt 35 2 := rfl
    have w14 : (u2 dt 35 8 ((dt 35 8) + 1)) 35 3 = dt 35 3 := rfl
    have w15 : (u2 dt 35 8 ((dt 35 8) + 1)) 35 7 = dt 35 7 := rfl
    have w16 : (u2 dt 35 8 ((dt 35 8) + 1)) 35 8 = (dt 35 8) + 1 := rfl
    have w17 : (u2 dt 35 8 ((dt 35 8) + 1)) 35 12 = dt 35 12 := rfl
    have lv19 := KLIVE hz (D := dt) (by omega) (by omega) (by (have z_ := unhid h_p2; omega))
    have X18 : PX S t (gK K p1) gOk dt (u2 dt 35 8 ((dt 35 8) + 1)) := PX_st PX_0 (SPX_inc hz (by omega) (by omega) (by omega) (by omega) (by omega)) (fun hl => by first | (show (gK K p1) (dt 35 8).toNat = gOk ((dt 35 8).toNat + 1); unfold gK; rw [if_pos (by omega)]; rfl) | (exfalso; fail))
    refine go_smpq PM22 (L' := [some (.inr (.inr (some 35))), some (.inl p1)]) (st' := []) (w' := (SH, (u2 dt 35 8 ((dt 35 8) + 1)))) rfl rfl (s_pf rfl rfl rfl rfl ⟨by omega, by omega⟩) ?_
    refine go_retq PM22 (k := 1) (r := none) (w1 := (SH, (u2 dt 35 8 ((dt 35 8) + 1)))) rfl ?_
    exact ⟨(u2 dt 35 8 ((dt 35 8) + 1)), rfl, hI10, hF11, ⟨rfl, ⟨by exact PX_e X18 (by omega), by first | exact True.intro | with_reducible assumption | exact unhid (by with_reducible assumption) | rfl | omega | trivial, by first | exact True.intro | with_reducible assumption | exact unhid (by with_reducible assumption) | rfl | omega | trivial, by first | exact True.intro | with_reducible assumption | exact unhid (by with_reducible assumption) | rfl | omega | trivial, by first | exact True.intro | with_reducible assumption | exact unhid (by with_reducible assumption) | rfl | fail | trivial, by first | exact True.intro | with_reducible assumption | exact unhid (by with_reducible assumption) | rfl | fail | trivial, by first | exact True.intro | with_reducible assumption | exact unhid (by with_reducible assumption) | rfl | fail | trivial⟩⟩⟩
theorem sp_X1_emit_f (L : Nat) (xs : Nat → Int32) (sio : Option Nat) (d : Nat) (dt : Nat → Nat → Int) (hI : InvC dt)  (p1 : Int) (h_p1 : (-2147483648) ≤ p1 ∧ p1 ≤ 2147483647)  : GO (am_XX L xs sio) (d) 30 0 [some (.inr (.inr (some 35))), some (.inl p1)] [] (SH, dt) (fun r w2 => ∃ dt2 : Nat → Nat → Int, w2 = (SH, dt2) ∧ InvC dt2 ∧ Fr [35, 42] dt dt2 ∧ ((r = none ∧ (dt 35 12 < 500 → CDX dt dt2 [p1]) ∧ (dt 35 12 < 500 → dt2 35 12 = dt 35 12 + 1) ∧ (dt2 35 1 = dt 35 1) ∧ (dt2 35 2 = dt 35 2) ∧ (dt2 35 3 = dt 35 3) ∧ (dt2 35 7 = dt 35 7) ∧ (dt2 35 8 = dt 35 8)))) := by
  have hF : Fr [35, 42] dt dt := Fr_refl
  have r1 : 0 ≤ dt 35 12 ∧ dt 35 12 ≤ 500 := InvC_get hI 35 12 rfl rfl
  refine go_ifq PM30 (k := 5) (p1 := 32) (p2 := 12) (L' := [some (.inr (.inr (some 35))), some (.inl p1)]) (st' := []) (w' := (SH, dt)) rfl (c_ge (a := dt 35 12) (b := 500) (by first | exact bnd r1 (by decide) (by decide) | exact ⟨by fail, by fail⟩) ⟨by decide, by decide⟩) (fun c2 => ?_) (fun c2 => ?_)
  · skip
    refine go_retq PM30 (k := 0) (r := none) (w1 := (SH, dt)) rfl ?_
    exact ⟨dt, rfl, hI, hF, ⟨rfl, ⟨by first | (intro z_; exfalso; omega) | (intro z_; exact CDX_1 (by fail) (by first | rfl | fail) ((u2_ne (by fail)).trans u2_eq) (fun j hj => (u2_ne (by fail)).trans (u2_ne (by fail)))), by first | (intro z_; exfalso; omega) | (intro z_; fail) | exact fun _ => rfl, by first | exact True.intro | with_reducible assumption | rfl | fail | trivial, by first | exact True.intro | with_reducible assumption | rfl | fail | trivial, by first | exact True.intro | with_reducible assumption | rfl | fail | trivial, by first | exact True.intro | with_reducible assumption | rfl | fail | trivial, by first | exact True.intro | with_reducible assumption | rfl | fail | trivial⟩⟩⟩
  · skip
    refine go_toq PM30 (k := 5) (pc' := 21) (L' := [some (.inr (.inr (some 35))), some (.inl p1)]) (st' := [.inl p1, .inl (dt 35 12), .inr (.inr (some 42))]) (w' := (SH, dt)) rfl ?_
    have hI3 : InvC (u2 dt 42 ((dt 35 12).toNat) p1) := InvC_u2 hI (lo := -2147483648) (hi := 2147483647) rfl rfl rfl (by first | exact bnd1 h_p1 (by decide) | fail) (by first | exact bnd2 h_p1 (by decide) | fail)
    have hF4 : Fr [35, 42] dt (u2 dt 42 ((dt 35 12).toNat) p1) := Fr_u2 hF (by decide)
    have w5 : (u2 dt 42 ((dt 35 12).toNat) p1) 35 1 = dt 35 1 := rfl
    have w6 : (u2 dt 42 ((dt 35 12).toNat) p1) 35 2 = dt 35 2 := rfl
    have w7 : (u2 dt 42 ((dt 35 12).toNat) p1) 35 3 = dt 35 3 := rfl
    have w8 : (u2 dt 42 ((dt 35 12).toNat) p1) 35 7 = dt 35 7 := rfl
    have w9 : (u2 dt 42 ((dt 35 12).toNat) p1) 35 8 = dt 35 8 := rfl
    have w10 : (u2 dt 42 ((dt 35 12).toNat) p1) 35 12 = dt 35 12 := rfl
    refine go_smpq PM30 (L' := [some (.inr (.inr (some 35))), some (.inl p1)]) (st' := []) (w' := (SH, (u2 dt 42 ((dt 35 12).toNat) p1))) rfl rfl (s_iast (n := 500) rfl (by first | exact bndc r1 c2 (by decide) (by decide) | exact bndx r1 (by decide) (by decide) | exact ⟨by fail, by fail⟩) (by first | exact bnd h_p1 (by decide) (by decide) | exact ⟨by fail, by fail⟩)) ?_
    refine go_toq PM30 (k := 5) (pc' := 29) (L' := [some (.inr (.inr (some 35))), some (.inl p1)]) (st' := [.inl ((dt 35 12) + 1), .inr (.inr (some 35))]) (w' := (SH, (u2 dt 42 ((dt 35 12).toNat) p1))) rfl ?_
    have hI11 : InvC (u2 (u2 dt 42 ((dt 35 12).toNat) p1) 35 12 ((dt 35 12) + 1)) := InvC_u2 hI3 (lo := 0) (hi := 500) rfl rfl rfl (by omega) (by omega)
    have hF12 : Fr [35, 42] dt (u2 (u2 dt 42 ((dt 35 12).toNat) p1) 35 12 ((dt 35 12) + 1)) := Fr_u2 hF4 (by decide)
    have w13 : (u2 (u2 dt 42 ((dt 35 12).toNat) p1) 35 12 ((dt 35 12) + 1)) 35 1 = (u2 dt 42 ((dt 35 12).toNat) p1) 35 1 := rfl
    have w14 : (u2 (u2 dt 42 ((dt 35 12).toNat) p1) 35 12 ((dt 35 12) + 1)) 35 2 = (u2 dt 42 ((dt 35 12).toNat) p1) 35 2 := rfl
    have w15 : (u2 (u2 dt 42 ((dt 35 12).toNat) p1) 35 12 ((dt 35 12) + 1)) 35 3 = (u2 dt 42 ((dt 35 12).toNat) p1) 35 3 := rfl
    have w16 : (u2 (u2 dt 42 ((dt 35 12).toNat) p1) 35 12 ((dt 35 12) + 1)) 35 7 = (u2 dt 42 ((dt 35 12).toNat) p1) 35 7 := rfl
    have w17 : (u2 (u2 dt 42 ((dt 35 12).toNat) p1) 35 12 ((dt 35 12) + 1)) 35 8 = (u2 dt 42 ((dt 35 12).toNat) p1) 35 8 := rfl
    have w18 : (u2 (u2 dt 42 ((dt 35 12).toNat) p1) 35 12 ((dt 35 12) + 1)) 35 12 = (dt 35 12) + 1 := rfl
    refine go_smpq PM30 (L' := [some (.inr (.inr (some 35))), some (.inl p1)]) (st' := []) (w' := (SH, (u2 (u2 dt 42 ((dt 35 12).toNat) p1) 35 12 ((dt 35 12) + 1)))) rfl rfl (s_pf rfl rfl rfl rfl (by first | exact bndp r1 (by decide) (by decide) | exact ⟨by fail, by fail⟩)) ?_
    refine go_retq PM30 (k := 0) (r := none) (w1 := (SH, (u2 (u2 dt 42 ((dt 35 12).toNat) p1) 35 12 ((dt 35 12) + 1)))) rfl ?_
    exact ⟨(u2 (u2 dt 42 ((dt 35 12).toNat) p1) 35 12 ((dt 35 12) + 1)), rfl, hI11, hF12, ⟨rfl, ⟨by first | (intro z_; exfalso; fail) | (intro z_; exact CDX_1 (by omega) (by first | rfl | fail) ((u2_ne (by omega)).trans u2_eq) (fun j hj => (u2_ne (by omega)).trans (u2_ne (by omega)))), by first | (intro z_; exfalso; fail) | (intro z_; omega) | exact fun _ => rfl, by first | exact True.intro | with_reducible assumption | rfl | fail | trivial, by first | exact True.intro | with_reducible assumption | rfl | fail | trivial, by first | exact True.intro | with_reducible assumption | rfl | fail | trivial, by first | exact True.intro | with_reducible assumption | rfl | fail | trivial, by first | exact True.intro | with_reducible assumption | rfl | fail | trivial⟩⟩⟩
theorem sp_X1_oneOf_f (L : Nat) (xs : Nat → Int32) (sio : Option Nat) (d : Nat) (dt : Nat → Nat → Int) (hI : InvC dt) (K V S : Nat → Int) (t : Nat) (hz : KZ K t) (ht : t ≤ 500) (p1 : Int) (h_p1 : 1 ≤ p1 ∧ p1 ≤ 8) (h_p0 : TKc K V S t dt) (h_p1 : 0 ≤ dt 35 8 ∧ dt 35 8 ≤ (t : Int)) (h_p2 : ¬ dt 35 2 = 0 → dt 35 8 = (t : Int)) : GO (am_XX L xs sio) (d + 1) 24 0 [some (.inr (.inr (some 35))), some (.inl p1), none] [] (SH, dt) (fun r w2 => ∃ dt2 : Nat → Nat → Int, w2 = (SH, dt2) ∧ InvC dt2 ∧ Fr [35] dt dt2 ∧ ((∃ v : Int, r = some (.inl v) ∧ (0 ≤ v ∧ v ≤ 9999) ∧ (SPX S t dt dt2 (gA K V (p1 - 1))) ∧ (0 ≤ dt2 35 8 ∧ dt2 35 8 ≤ (t : Int)) ∧ (¬ dt2 35 2 = 0 → dt2 35 8 = (t : Int)) ∧ (dt 35 8 ≤ dt2 35 8) ∧ (dt2 35 2 = 0 → v = V (dt 35 8).toNat) ∧ (v ≤ p1 - 1) ∧ (dt2 35 1 = dt 35 1) ∧ (dt2 35 7 = dt 35 7) ∧ (dt2 35 12 = dt 35 12)))) := by
  replace h_p2 := hid h_p2
  have hF : Fr [35] dt dt := Fr_refl
  have h7 : dt 35 7 = (t : Int) + 1 := h_p0.1
  have hk0 := TKc_k h_p0 h_p1
  have hv0 := hid (TKc_v h_p0 h_p1)
  have hs0 := TKc_s h_p0 h_p1
  refine go_toq PM24 (k := 1) (pc' := 1) (L' := [some (.inr (.inr (some 35))), some (.inl p1), none]) (st' := [.inr (.inr (some 35))]) (w' := (SH, dt)) rfl ?_
  refine go_callq PM24 PM23 (Q' := _) rfl rfl rfl rfl (sp_X1_nextNumber_f L xs sio (d + 0) dt hI K V S t hz ht  (by first | with_reducible assumption | exact unhid (by with_reducible assumption) | exact TKc_fr h_p0 hF (by decide) (by decide) (by decide) (by fail) | fail) (by first | with_reducible assumption | exact unhid (by with_reducible assumption) | exact TKc_fr h_p0 hF (by decide) (by decide) (by decide) (by fail) | fail) (by first | with_reducible assumption | exact unhid (by with_reducible assumption) | exact TKc_fr h_p0 hF (by decide) (by decide) (by decide) (by fail) | fail)) ?_
  rintro _ _ ⟨rfl, h1⟩
  refine ⟨rfl, ?_⟩
  rcases h1 with ⟨v_h1, rfl, h1r, h1⟩ | ⟨rfl, h1⟩
  · skip
    obtain ⟨h1_0, h1_1⟩ := h1
    refine go_ifq PM24 (k := 3) (p1 := 15) (p2 := 10) (L' := [some (.inr (.inr (some 35))), some (.inl p1), some (.inl v_h1)]) (st' := []) (w' := (SH, dt)) rfl (c_eq (a := v_h1) (b := (-1)) (by first | exact bnd h1r (by decide) (by decide) | exact ⟨by fail, by fail⟩) ⟨by decide, by decide⟩) (fun c3 => ?_) (fun c3 => ?_)
    · exfalso; omega
    · skip
      replace c3 := hid c3
      refine go_ifq PM24 (k := 2) (p1 := 31) (p2 := 15) (L' := [some (.inr (.inr (some 35))), some (.inl p1), some (.inl v_h1)]) (st' := []) (w' := (SH, dt)) rfl (c_lt (a := v_h1) (b := p1) (by first | exact bnd h1r (by decide) (by decide) | exact ⟨by fail, by fail⟩) (by first | exact bnd h_p1 (by decide) (by decide) | exact ⟨by omega, by omega⟩)) (fun c4 => ?_) (fun c4 => ?_)
      · skip
        refine go_toq PM24 (k := 5) (pc' := 38) (L' := [some (.inr (.inr (some 35))), some (.inl p1), some (.inl v_h1)]) (st' := [.inl ((dt 35 8) + 1), .inr (.inr (some 35))]) (w' := (SH, dt)) rfl ?_
        have hI5 : InvC (u2 dt 35 8 ((dt 35 8) + 1)) := InvC_u2 hI (lo := -2147483648) (hi := 2147483647) rfl rfl rfl (by omega) (by omega)
        have hF6 : Fr [35] dt (u2 dt 35 8 ((dt 35 8) + 1)) := Fr_u2 hF (by decide)
        have w7 : (u2 dt 35 8 ((dt 35 8) + 1)) 35 1 = dt 35 1 := rfl
        have w8 : (u2 dt 35 8 ((dt 35 8) + 1)) 35 2 = dt 35 2 := rfl
        have w9 : (u2 dt 35 8 ((dt 35 8) + 1)) 35 3 = dt 35 3 := rfl
        have w10 : (u2 dt 35 8 ((dt 35 8) + 1)) 35 7 = dt 35 7 := rfl
        have w11 : (u2 dt 35 8 ((dt 35 8) + 1)) 35 8 = (dt 35 8) + 1 := rfl
        have w12 : (u2 dt 35 8 ((dt 35 8) + 1)) 35 12 = dt 35 12 := rfl
        have lv14 := KLIVE hz (D := dt) (by omega) (by omega) (by (have z_ := unhid h_p2; omega))
        have X13 : PX S t (gA K V (p1 - 1)) gOk dt (u2 dt 35 8 ((dt 35 8) + 1)) := PX_st PX_0 (SPX_inc hz (by omega) (by omega) (by omega) (by omega) (by omega)) (fun hl => by first | (show (gA K V (p1 - 1)) (dt 35 8).toNat = gOk ((dt 35 8).toNat + 1); unfold gA; rw [if_pos (by omega), if_pos (by omega)]; rfl) | (exfalso; fail))
        refine go_smpq PM24 (L' := [some (.inr (.inr (some 35))), some (.inl p1), some (.inl v_h1)]) (st' := []) (w' := (SH, (u2 dt 35 8 ((dt 35 8) + 1)))) rfl rfl (s_pf rfl rfl rfl rfl ⟨by omega, by omega⟩) ?_
        refine go_retq PM24 (k := 1) (r := some (.inl v_h1)) (w1 := (SH, (u2 dt 35 8 ((dt 35 8) + 1)))) rfl ?_
        exact ⟨(u2 dt 35 8 ((dt 35 8) + 1)), rfl, hI5, hF6, ⟨_, rfl, (by first | exact bnd h1r (by decide) (by decide) | exact ⟨by fail, by fail⟩), ⟨by exact PX_e X13 (by omega), by first | exact True.intro | with_reducible assumption | exact unhid (by with_reducible assumption) | rfl | omega | trivial, by first | exact True.intro | with_reducible assumption | exact unhid (by with_reducible assumption) | rfl | omega | trivial, by first | exact True.intro | with_reducible assumption | exact unhid (by with_reducible assumption) | rfl | omega | trivial, by first | exact True.intro | with_reducible assumption | exact unhid (by with_reducible assumption) | rfl | omega | trivial, by first | exact True.intro | with_reducible assumption | exact unhid (by with_reducible assumption) | rfl | omega | trivial, by first | exact True.intro | with_reducible assumption | exact unhid (by with_reducible assumption) | rfl | fail | trivial, by first | exact True.intro | with_reducible assumption | exact unhid (by with_reducible assumption) | rfl | fail | trivial, by first | exact True.intro | with_reducible assumption | exact unhid (by with_reducible assumption) | rfl | fail | trivial⟩⟩⟩
      · skip
        refine go_ifq PM24 (k := 3) (p1 := 25) (p2 := 21) (L' := [some (.inr (.inr (some 35))), some (.inl p1), some (.inl v_h1)]) (st' := [.inr (.inr (some 35))]) (w' := (SH, dt)) rfl (c_ne (a := v_h1) (b := (-1)) (by first | exact bnd h1r (by decide) (by decide) | exact ⟨by fail, by fail⟩) ⟨by decide, by decide⟩) (fun c15 => ?_) (fun c15 => ?_)
        · skip
          replace c15 := hid c15
          refine go_toq PM24 (k := 1) (pc' := 26) (L' := [some (.inr (.inr (some 35))), some (.inl p1), some (.inl v_h1)]) (st' := [.inl 2, .inr (.inr (some 35))]) (w' := (SH, dt)) rfl ?_
          refine go_callq PM24 PM21 (Q' := _) rfl rfl rfl rfl (sp_X1_fail_f L xs sio (d + 0) dt hI K V S t hz ht 2 ⟨by decide, by decide⟩ (by first | with_reducible assumption | exact unhid (by with_reducible assumption) | exact TKc_fr h_p0 hF (by decide) (by decide) (by decide) (by fail) | fail) (by first | with_reducible assumption | exact unhid (by with_reducible assumption) | exact TKc_fr h_p0 hF (by decide) (by decide) (by decide) (by fail) | fail) (by first | with_reducible assumption | exact unhid (by with_reducible assumption) | exact TKc_fr h_p0 hF (by decide) (by decide) (by decide) (by fail) | fail)) ?_
          rintro _ _ ⟨dt17, rfl, hI18, hF19, h16⟩
          refine ⟨rfl, ?_⟩
          have hF20 : Fr [35] dt dt17 := Fr_tr hF hF19 (by decide)
          rcases h16 with ⟨rfl, h16⟩
          obtain ⟨h16_0, h16_1, h16_2, h16_3, h16_4, h16_5⟩ := h16
          replace h16_2 := hid h16_2
          have X21 : PX S t (gA K V (p1 - 1)) gOk dt dt17 := PX_st PX_0 h16_0 (fun hl => by first | exact (by unfold gA; rw [if_pos (by omega), if_neg (by omega)] : _ = ((2 : Int), (dt 35 8).toNat)).trans (gB_no (by show ¬ ((2 : Int) = 0); omega)).symm | (exfalso; fail))
          refine go_retq PM24 (k := 1) (r := some (.inl 0)) (w1 := (SH, dt17)) rfl ?_
          exact ⟨dt17, rfl, hI18, hF20, ⟨_, rfl, ⟨by decide, by decide⟩, ⟨by exact PX_e X21 (by omega), by first | exact True.intro | with_reducible assumption | exact unhid (by with_reducible assumption) | rfl | omega | trivial, by first | exact True.intro | with_reducible assumption | exact unhid (by with_reducible assumption) | rfl | omega | trivial, by first | exact True.intro | with_reducible assumption | exact unhid (by with_reducible assumption) | rfl | omega | trivial, by first | exact True.intro | with_reducible assumption | exact unhid (by with_reducible assumption) | rfl | (have z_ := unhid h16_2; omega) | trivial, by first | exact True.intro | with_reducible assumption | exact unhid (by with_reducible assumption) | rfl | omega | trivial, by first | exact True.intro | with_reducible assumption | exact unhid (by with_reducible assumption) | rfl | fail | trivial, by first | exact True.intro | with_reducible assumption | exact unhid (by with_reducible assumption) | rfl | fail | trivial, by first | exact True.intro | with_reducible assumption | exact unhid (by with_reducible assumption) | rfl | fail | trivial⟩⟩⟩
        · exfalso; omega
  · skip
    refine go_toq PM24 (k := 10) (pc' := 26) (L' := [some (.inr (.inr (some 35))), some (.inl p1), some (.inl (-1))]) (st' := [.inl 1, .inr (.inr (some 35))]) (w' := (SH, dt)) rfl ?_
    refine go_callq PM24 PM21 (Q' := _) rfl rfl rfl rfl (sp_X1_fail_f L xs sio (d + 0) dt hI K V S t hz ht 1 ⟨by decide, by decide⟩ (by first | with_reducible assumption | exact unhid (by with_reducible assumption) | exact TKc_fr h_p0 hF (by decide) (by decide) (by decide) (by fail) | fail) (by first | with_reducible assumption | exact unhid (by with_reducible assumption) | exact TKc_fr h_p0 hF (by decide) (by decide) (by decide) (by fail) | fail) (by first | with_reducible assumption | exact unhid (by with_reducible assumption) | exact TKc_fr h_p0 hF (by decide) (by decide) (by decide) (by fail) | fail)) ?_
    rintro _ _ ⟨dt24, rfl, hI25, hF26, h23⟩
    refine ⟨rfl, ?_⟩
    have hF27 : Fr [35] dt dt24 := Fr_tr hF hF26 (by decide)
    rcases h23 with ⟨rfl, h23⟩
    obtain ⟨h23_0, h23_1, h23_2, h23_3, h23_4, h23_5⟩ := h23
    replace h23_2 := hid h23_2
    have X28 : PX S t (gA K V (p1 - 1)) gOk dt dt24 := PX_st PX_0 h23_0 (fun hl => by first | exact (by unfold gA; rw [if_neg (by omega)] : _ = ((1 : Int), (dt 35 8).toNat)).trans (gB_no (by show ¬ ((1 : Int) = 0); omega)).symm | (exfalso; fail))
    refine go_retq PM24 (k := 1) (r := some (.inl 0)) (w1 := (SH, dt24)) rfl ?_
    exact ⟨dt24, rfl, hI25, hF27, ⟨_, rfl, ⟨by decide, by decide⟩, ⟨by exact PX_e X28 (by omega), by first | exact True.intro | with_reducible assumption | exact unhid (by with_reducible assumption) | rfl | omega | trivial, by first | exact True.intro | with_reducible assumption | exact unhid (by with_reducible assumption) | rfl | omega | trivial, by first | exact True.intro | with_reducible assumption | exact unhid (by with_reducible assumption) | rfl | omega | trivial, by first | exact True.intro | with_reducible assumption | exact unhid (by with_reducible assumption) | rfl | (have z_ := unhid h23_2; omega) | trivial, by first | exact True.intro | with_reducible assumption | exact unhid (by with_reducible assumption) | rfl | omega | trivial, by first | exact True.intro | with_reducible assumption | exact unhid (by with_reducible assumption) | rfl | fail | trivial, by first | exact True.intro | with_reducible assumption | exact unhid (by with_reducible assumption) | rfl | fail | trivial, by first | exact True.intro | with_reducible assumption | exact unhid (by with_reducible assumption) | rfl | fail | trivial⟩⟩⟩
theorem sp_X1_readOther_f (L : Nat) (xs : Nat → Int32) (sio : Option Nat) (d : Nat) (dt : Nat → Nat → Int) (hI : InvC dt) (K V S : Nat → Int) (t : Nat) (hz : KZ K t) (ht : t ≤ 500) (p1 : Int) (h_p1 : 0 ≤ p1 ∧ p1 ≤ 9999) (h_p0 : TKc K V S t dt) (h_p1 : 0 ≤ dt 35 8 ∧ dt 35 8 ≤ (t : Int)) (h_p2 : ¬ dt 35 2 = 0 → dt 35 8 = (t : Int)) : GO (am_XX L xs sio) (d + 2) 27 0 [some (.inr (.inr (some 35))), some (.inl p1)] [] (SH, dt) (fun r w2 => ∃ dt2 : Nat → Nat → Int, w2 = (SH, dt2) ∧ InvC dt2 ∧ Fr [35] dt dt2 ∧ ((∃ v : Int, r = some (.inl v) ∧ (0 ≤ v ∧ v ≤ 9999) ∧ (SPX S t dt dt2 (gOt K V p1)) ∧ (0 ≤ dt2 35 8 ∧ dt2 35 8 ≤ (t : Int)) ∧ (¬ dt2 35 2 = 0 → dt2 35 8 = (t : Int)) ∧ (dt 35 8 ≤ dt2 35 8) ∧ (v ≤ 3) ∧ (dt2 35 2 = 0 → v = V (dt 35 8).toNat) ∧ (dt2 35 2 = 0 → ¬ v = p1) ∧ (dt2 35 1 = dt 35 1) ∧ (dt2 35 7 = dt 35 7) ∧ (dt2 35 12 = dt 35 12)))) := by
  replace h_p2 := hid h_p2
  have hF : Fr [35] dt dt := Fr_refl
  have h7 : dt 35 7 = (t : Int) + 1 := h_p0.1
  have hk0 := TKc_k h_p0 h_p1
  have hv0 := hid (TKc_v h_p0 h_p1)
  have hs0 := TKc_s h_p0 h_p1
  refine go_toq PM27 (k := 1) (pc' := 1) (L' := [some (.inr (.inr (some 35))), some (.inl p1)]) (st' := [.inr (.inr (some 35))]) (w' := (SH, dt)) rfl ?_
  refine go_callq PM27 PM23 (Q' := _) rfl rfl rfl rfl (sp_X1_nextNumber_f L xs sio (d + 1) dt hI K V S t hz ht  (by first | with_reducible assumption | exact unhid (by with_reducible assumption) | exact TKc_fr h_p0 hF (by decide) (by decide) (by decide) (by fail) | fail) (by first | with_reducible assumption | exact unhid (by with_reducible assumption) | exact TKc_fr h_p0 hF (by decide) (by decide) (by decide) (by fail) | fail) (by first | with_reducible assumption | exact unhid (by with_reducible assumption) | exact TKc_fr h_p0 hF (by decide) (by decide) (by decide) (by fail) | fail)) ?_
  rintro _ _ ⟨rfl, h1⟩
  refine ⟨rfl, ?_⟩
  rcases h1 with ⟨v_h1, rfl, h1r, h1⟩ | ⟨rfl, h1⟩
  · skip
    obtain ⟨h1_0, h1_1⟩ := h1
    refine go_ifq PM27 (k := 1) (p1 := 15) (p2 := 8) (L' := [some (.inr (.inr (some 35))), some (.inl p1)]) (st' := []) (w' := (SH, dt)) rfl (c_ne (a := v_h1) (b := p1) (by first | exact bnd h1r (by decide) (by decide) | exact ⟨by fail, by fail⟩) (by first | exact bnd h_p1 (by decide) (by decide) | exact ⟨by omega, by omega⟩)) (fun c3 => ?_) (fun c3 => ?_)
    · skip
      replace c3 := hid c3
      refine go_toq PM27 (k := 2) (pc' := 17) (L' := [some (.inr (.inr (some 35))), some (.inl p1)]) (st' := [.inl 4, .inr (.inr (some 35))]) (w' := (SH, dt)) rfl ?_
      refine go_callq PM27 PM24 (Q' := _) rfl rfl rfl rfl (sp_X1_oneOf_f L xs sio (d + 0) dt hI K V S t hz ht 4 ⟨by decide, by decide⟩ (by first | with_reducible assumption | exact unhid (by with_reducible assumption) | exact TKc_fr h_p0 hF (by decide) (by decide) (by decide) (by fail) | fail) (by first | with_reducible assumption | exact unhid (by with_reducible assumption) | exact TKc_fr h_p0 hF (by decide) (by decide) (by decide) (by fail) | fail) (by first | with_reducible assumption | exact unhid (by with_reducible assumption) | exact TKc_fr h_p0 hF (by decide) (by decide) (by decide) (by fail) | fail)) ?_
      rintro _ _ ⟨dt5, rfl, hI6, hF7, h4⟩
      refine ⟨rfl, ?_⟩
      have hF8 : Fr [35] dt dt5 := Fr_tr hF hF7 (by decide)
      rcases h4 with ⟨v_h4, rfl, h4r, h4⟩
      obtain ⟨h4_0, h4_1, h4_2, h4_3, h4_4, h4_5, h4_6, h4_7, h4_8⟩ := h4
      replace h4_2 := hid h4_2
      replace h4_4 := hid h4_4
      have u4_ := hid (And.intro (unhid h_p2) (And.intro (unhid hv0) (And.intro (unhid c3) (And.intro (unhid h4_2) (unhid h4_4)))))
      have X9 : PX S t (gOt K V p1) gOk dt dt5 := PX_st PX_0 h4_0 (fun hl => by first | (rw [gB_id]; unfold gOt; rw [if_neg (by (have z_ := unhid c3; omega))]; rfl) | (exfalso; fail))
      refine go_retq PM27 (k := 0) (r := some (.inl v_h4)) (w1 := (SH, dt5)) rfl ?_
      exact ⟨dt5, rfl, hI6, hF8, ⟨_, rfl, (by first | exact bnd h4r (by decide) (by decide) | exact ⟨by fail, by fail⟩), ⟨by exact PX_e X9 (by omega), by first | exact True.intro | with_reducible assumption | exact unhid (by with_reducible assumption) | rfl | fail | trivial, by first | exact True.intro | with_reducible assumption | exact unhid (by with_reducible assumption) | rfl | fail | trivial, by first | exact True.intro | with_reducible assumption | exact unhid (by with_reducible assumption) | rfl | fail | trivial, by first | exact True.intro | with_reducible assumption | exact unhid (by with_reducible assumption) | rfl | omega | trivial, by first | (have z_ := unhid h4_4; omega) | (intro z_; have y_ := h4_4 z_; fail), by first | (have z_ := unhid u4_; omega) | (intro z_; have y_ := h4_4 z_; have w_ := gA_k (SPX_ok h4_0 (by fail) z_).2.1; fail), by first | exact True.intro | with_reducible assumption | exact unhid (by with_reducible assumption) | rfl | fail | trivial, by first | exact True.intro | with_reducible assumption | exact unhid (by with_reducible assumption) | rfl | fail | trivial, by first | exact True.intro | with_reducible assumption | exact unhid (by with_reducible assumption) | rfl | fail | trivial⟩⟩⟩
    · skip
      refine go_toq PM27 (k := 2) (pc' := 10) (L' := [some (.inr (.inr (some 35))), some (.inl p1)]) (st' := [.inl 2, .inr (.inr (some 35))]) (w' := (SH, dt)) rfl ?_
      refine go_callq PM27 PM21 (Q' := _) rfl rfl rfl rfl (sp_X1_fail_f L xs sio (d + 1) dt hI K V S t hz ht 2 ⟨by decide, by decide⟩ (by first | with_reducible assumption | exact unhid (by with_reducible assumption) | exact TKc_fr h_p0 hF (by decide) (by decide) (by decide) (by fail) | fail) (by first | with_reducible assumption | exact unhid (by with_reducible assumption) | exact TKc_fr h_p0 hF (by decide) (by decide) (by decide) (by fail) | fail) (by first | with_reducible assumption | exact unhid (by with_reducible assumption) | exact TKc_fr h_p0 hF (by decide) (by decide) (by decide) (by fail) | fail)) ?_
      rintro _ _ ⟨dt11, rfl, hI12, hF13, h10⟩
      refine ⟨rfl, ?_⟩
      have hF14 : Fr [35] dt dt11 := Fr_tr hF hF13 (by decide)
      rcases h10 with ⟨rfl, h10⟩
      obtain ⟨h10_0, h10_1, h10_2, h10_3, h10_4, h10_5⟩ := h10
      replace h10_2 := hid h10_2
      have X15 : PX S t (gOt K V p1) gOk dt dt11 := PX_st PX_0 h10_0 (fun hl => by first | exact (by unfold gOt; rw [if_pos (by omega)] : _ = ((2 : Int), (dt 35 8).toNat)).trans (gB_no (by show ¬ ((2 : Int) = 0); omega)).symm | (exfalso; fail))
      refine go_retq PM27 (k := 1) (r := some (.inl 0)) (w1 := (SH, dt11)) rfl ?_
      exact ⟨dt11, rfl, hI12, hF14, ⟨_, rfl, ⟨by decide, by decide⟩, ⟨by exact PX_e X15 (by omega), by first | exact True.intro | with_reducible assumption | exact unhid (by with_reducible assumption) | rfl | omega | trivial, by first | exact True.intro | with_reducible assumption | exact unhid (by with_reducible assumption) | rfl | omega | trivial, by first | exact True.intro | with_reducible assumption | exact unhid (by with_reducible assumption) | rfl | omega | trivial, by first | exact True.intro | with_reducible assumption | exact unhid (by with_reducible assumption) | rfl | omega | trivial, by first | (have z_ := unhid h10_2; omega) | (intro z_; have y_ := hI z_; fail), by first | (have z_ := unhid h10_2; omega) | (intro z_; have y_ := hI z_; have w_ := gA_k (SPX_ok hI (by fail) z_).2.1; fail), by first | exact True.intro | with_reducible assumption | exact unhid (by with_reducible assumption) | rfl | fail | trivial, by first | exact True.intro | with_reducible assumption | exact unhid (by with_reducible assumption) | rfl | fail | trivial, by first | exact True.intro | with_reducible assumption | exact unhid (by with_reducible assumption) | rfl | fail | trivial⟩⟩⟩
  · skip
    refine go_ifq PM27 (k := 1) (p1 := 15) (p2 := 8) (L' := [some (.inr (.inr (some 35))), some (.inl p1)]) (st' := []) (w' := (SH, dt)) rfl (c_ne (a := (-1)) (b := p1) ⟨by decide, by decide⟩ (by first | exact bnd h_p1 (by decide) (by decide) | exact ⟨by omega, by omega⟩)) (fun c17 => ?_) (fun c17 => ?_)
    · skip
      replace c17 := hid c17
      refine go_toq PM27 (k := 2) (pc' := 17) (L' := [some (.inr (.inr (some 35))), some (.inl p1)]) (st' := [.inl 4, .inr (.inr (some 35))]) (w' := (SH, dt)) rfl ?_
      refine go_callq PM27 PM24 (Q' := _) rfl rfl rfl rfl (sp_X1_oneOf_f L xs sio (d + 0) dt hI K V S t hz ht 4 ⟨by decide, by decide⟩ (by first | with_reducible assumption | exact unhid (by with_reducible assumption) | exact TKc_fr h_p0 hF (by decide) (by decide) (by decide) (by fail) | fail) (by first | with_reducible assumption | exact unhid (by with_reducible assumption) | exact TKc_fr h_p0 hF (by decide) (by decide) (by decide) (by fail) | fail) (by first | with_reducible assumption | exact unhid (by with_reducible assumption) | exact TKc_fr h_p0 hF (by decide) (by decide) (by decide) (by fail) | fail)) ?_
      rintro _ _ ⟨dt19, rfl, hI20, hF21, h18⟩
      refine ⟨rfl, ?_⟩
      have hF22 : Fr [35] dt dt19 := Fr_tr hF hF21 (by decide)
      rcases h18 with ⟨v_h18, rfl, h18r, h18⟩
      obtain ⟨h18_0, h18_1, h18_2, h18_3, h18_4, h18_5, h18_6, h18_7, h18_8⟩ := h18
      replace h18_2 := hid h18_2
      replace h18_4 := hid h18_4
      have X23 : PX S t (gOt K V p1) gOk dt dt19 := PX_st PX_0 h18_0 (fun hl => by first | (rw [gB_id]; unfold gOt; rw [if_neg (by omega)]; rfl) | (exfalso; fail))
      refine go_retq PM27 (k := 0) (r := some (.inl v_h18)) (w1 := (SH, dt19)) rfl ?_
      exact ⟨dt19, rfl, hI20, hF22, ⟨_, rfl, (by first | exact bnd h18r (by decide) (by decide) | exact ⟨by fail, by fail⟩), ⟨by exact PX_e X23 (by omega), by first | exact True.intro | with_reducible assumption | exact unhid (by with_reducible assumption) | rfl | fail | trivial, by first | exact True.intro | with_reducible assumption | exact unhid (by with_reducible assumption) | rfl | fail | trivial, by first | exact True.intro | with_reducible assumption | exact unhid (by with_reducible assumption) | rfl | fail | trivial, by first | exact True.intro | with_reducible assumption | exact unhid (by with_reducible assumption) | rfl | omega | trivial, by first | (have z_ := unhid h18_4; omega) | (intro z_; have y_ := h18_4 z_; fail), by first | fail | (intro z_; have y_ := h18_4 z_; have w_ := gA_k (SPX_ok h18_0 (by (have z_ := unhid h_p2; omega)) z_).2.1; omega), by first | exact True.intro | with_reducible assumption | exact unhid (by with_reducible assumption) | rfl | fail | trivial, by first | exact True.intro | with_reducible assumption | exact unhid (by with_reducible assumption) | rfl | fail | trivial, by first | exact True.intro | with_reducible assumption | exact unhid (by with_reducible assumption) | rfl | fail | trivial⟩⟩⟩
    · exfalso; omega
set_option maxHeartbeats 8000000 in
theorem sp_X1_readAct_f (L : Nat) (xs : Nat → Int32) (sio : Option Nat) (d : Nat) (dt : Nat → Nat → Int) (hI : InvC dt) (K V S : Nat → Int) (t : Nat) (hz : KZ K t) (ht : t ≤ 500) (p1 : Int) (h_p1 : 0 ≤ p1 ∧ p1 ≤ 8) (h_p0 : TKc K V S t dt) (h_p1 : 0 ≤ dt 35 8 ∧ dt 35 8 ≤ (t : Int)) (h_p2 : ¬ dt 35 2 = 0 → dt 35 8 = (t : Int)) : GO (am_XX L xs sio) (d + 3) 26 0 [some (.inr (.inr (some 35))), some (.inl p1), none, none, none] [] (SH, dt) (fun r w2 => ∃ dt2 : Nat → Nat → Int, w2 = (SH, dt2) ∧ InvC dt2 ∧ Fr [35] dt dt2 ∧ ((∃ v : Int, r = some (.inl v) ∧ ((-2147483648) ≤ v ∧ v ≤ 2147483647) ∧ (SPX S t dt dt2 (gAc K V p1)) ∧ (0 ≤ dt2 35 8 ∧ dt2 35 8 ≤ (t : Int)) ∧ (¬ dt2 35 2 = 0 → dt2 35 8 = (t : Int)) ∧ (dt 35 8 ≤ dt2 35 8) ∧ (dt2 35 2 = 0 → AE v p1 V (dt 35 8).toNat) ∧ (dt2 35 1 = dt 35 1) ∧ (dt2 35 7 = dt 35 7) ∧ (dt2 35 12 = dt 35 12)))) := by
  replace h_p2 := hid h_p2
  have hF : Fr [35] dt dt := Fr_refl
  have h7 : dt 35 7 = (t : Int) + 1 := h_p0.1
  have hk0 := TKc_k h_p0 h_p1
  have hv0 := hid (TKc_v h_p0 h_p1)
  have hs0 := TKc_s h_p0 h_p1
  refine go_ifq PM26 (k := 2) (p1 := 15) (p2 := 5) (L' := [some (.inr (.inr (some 35))), some (.inl p1), none, none, none]) (st' := []) (w' := (SH, dt)) rfl (c_eq (a := p1) (b := 2) (by first | exact bnd h_p1 (by decide) (by decide) | exact ⟨by omega, by omega⟩) ⟨by decide, by decide⟩) (fun c1 => ?_) (fun c1 => ?_)
  · skip
    refine go_ifq PM26 (k := 7) (p1 := 60) (p2 := 29) (L' := [some (.inr (.inr (some 35))), some (.inl p1), some (.inl 1), some (.inl p1), none]) (st' := []) (w' := (SH, dt)) rfl (c_eq (a := p1) (b := 8) (by first | exact bnd h_p1 (by decide) (by decide) | exact ⟨by omega, by omega⟩) ⟨by decide, by decide⟩) (fun c2 => ?_) (fun c2 => ?_)
    · exfalso; omega
    · skip
      have qc2 : p1 ≤ 7 := by omega
      replace c2 := hid c2
      refine go_toq PM26 (k := 2) (pc' := 31) (L' := [some (.inr (.inr (some 35))), some (.inl p1), some (.inl 1), some (.inl p1), none]) (st' := [.inl 4, .inr (.inr (some 35))]) (w' := (SH, dt)) rfl ?_
      refine go_callq PM26 PM24 (Q' := _) rfl rfl rfl rfl (sp_X1_oneOf_f L xs sio (d + 1) dt hI K V S t hz ht 4 ⟨by decide, by decide⟩ (by first | with_reducible assumption | exact unhid (by with_reducible assumption) | exact TKc_fr h_p0 hF (by decide) (by decide) (by decide) (by fail) | fail) (by first | with_reducible assumption | exact unhid (by with_reducible assumption) | exact TKc_fr h_p0 hF (by decide) (by decide) (by decide) (by fail) | fail) (by first | with_reducible assumption | exact unhid (by with_reducible assumption) | exact TKc_fr h_p0 hF (by decide) (by decide) (by decide) (by fail) | fail)) ?_
      rintro _ _ ⟨dt4, rfl, hI5, hF6, h3⟩
      refine ⟨rfl, ?_⟩
      have hF7 : Fr [35] dt dt4 := Fr_tr hF hF6 (by decide)
      rcases h3 with ⟨v_h3, rfl, h3r, h3⟩
      obtain ⟨h3_0, h3_1, h3_2, h3_3, h3_4, h3_5, h3_6, h3_7, h3_8⟩ := h3
      replace h3_2 := hid h3_2
      replace h3_4 := hid h3_4
      have ha1_ := SPX_at h3_0 (by (have z_ := unhid h_p2; omega)) (by omega) (fun _ z_ => gA_at z_)
      have hv1_ : dt4 35 2 = 0 → v_h3 = V (dt 35 8).toNat := h3_4
      replace hv1_ := hid hv1_
      have X8 : PX S t (gAc K V p1) (gA0 K V p1 (V (dt 35 8).toNat)) dt dt4 := PX_st PX_0 h3_0 (fun hl => by first | exact gAc_n (by omega) | (exfalso; fail))
      have r9 : -2147483648 ≤ am_shl v_h3 4 ∧ am_shl v_h3 4 ≤ 2147483647 := am_shl_R
      have r10 : -2147483648 ≤ am_or p1 (am_shl v_h3 4) ∧ am_or p1 (am_shl v_h3 4) ≤ 2147483647 := am_or_R
      refine go_ifq PM26 (k := 9) (p1 := 60) (p2 := 48) (L' := [some (.inr (.inr (some 35))), some (.inl p1), some (.inl 1), some (.inl (am_or p1 (am_shl v_h3 4))), some (.inl v_h3)]) (st' := []) (w' := (SH, dt4)) rfl (c_ne (a := p1) (b := 4) (by first | exact bnd h_p1 (by decide) (by decide) | exact ⟨by omega, by omega⟩) ⟨by decide, by decide⟩) (fun c11 => ?_) (fun c11 => ?_)
      · skip
        replace c11 := hid c11
        refine go_toq PM26 (k := 5) (pc' := 67) (L' := [some (.inr (.inr (some 35))), some (.inl p1), some (.inl 1), some (.inl (am_or p1 (am_shl v_h3 4))), some (.inl v_h3)]) (st' := [.inl 3, .inr (.inr (some 35)), .inl (am_or p1 (am_shl v_h3 4))]) (w' := (SH, dt4)) rfl ?_
        refine go_callq PM26 PM24 (Q' := _) rfl rfl rfl rfl (sp_X1_oneOf_f L xs sio (d + 1) dt4 hI5 K V S t hz ht 3 ⟨by decide, by decide⟩ (by first | with_reducible assumption | exact unhid (by with_reducible assumption) | exact TKc_fr h_p0 hF7 (by decide) (by decide) (by decide) (by omega) | fail) (by first | with_reducible assumption | exact unhid (by with_reducible assumption) | exact TKc_fr h_p0 hF7 (by decide) (by decide) (by decide) (by fail) | fail) (by first | with_reducible assumption | exact unhid (by with_reducible assumption) | exact TKc_fr h_p0 hF7 (by decide) (by decide) (by decide) (by fail) | fail)) ?_
        rintro _ _ ⟨dt13, rfl, hI14, hF15, h12⟩
        refine ⟨rfl, ?_⟩
        have hF16 : Fr [35] dt dt13 := Fr_tr hF7 hF15 (by decide)
        rcases h12 with ⟨v_h12, rfl, h12r, h12⟩
        obtain ⟨h12_0, h12_1, h12_2, h12_3, h12_4, h12_5, h12_6, h12_7, h12_8⟩ := h12
        replace h12_2 := hid h12_2
        replace h12_4 := hid h12_4
        have ha2_ := SPX_at h12_0 (by (have z_ := unhid h3_2; omega)) (by omega) (fun _ z_ => gA_at z_)
        have hv2_ : dt13 35 2 = 0 → v_h12 = V (dt4 35 8).toNat := h12_4
        replace hv2_ := hid hv2_
        have X17 : PX S t (gAc K V p1) (gA2 K V p1) dt dt13 := PX_st X8 h12_0 (fun hl => by first | ((repeat (first | rw [gA0_n (by omega)] | rw [gA1_n (by fail)] | rw [gA2_n (by fail)] | rw [gA3_n (by fail)])); exact gA1_p (by omega)) | (exfalso; fail))
        have r18 : -2147483648 ≤ am_shl v_h12 8 ∧ am_shl v_h12 8 ≤ 2147483647 := am_shl_R
        have r19 : -2147483648 ≤ am_or (am_or p1 (am_shl v_h3 4)) (am_shl v_h12 8) ∧ am_or (am_or p1 (am_shl v_h3 4)) (am_shl v_h12 8) ≤ 2147483647 := am_or_R
        refine go_toq PM26 (k := 9) (pc' := 87) (L' := [some (.inr (.inr (some 35))), some (.inl p1), some (.inl 1), some (.inl (am_or (am_or p1 (am_shl v_h3 4)) (am_shl v_h12 8))), some (.inl v_h3)]) (st' := [.inl 4, .inr (.inr (some 35)), .inl (am_or (am_or p1 (am_shl v_h3 4)) (am_shl v_h12 8))]) (w' := (SH, dt13)) rfl ?_
        refine go_callq PM26 PM24 (Q' := _) rfl rfl rfl rfl (sp_X1_oneOf_f L xs sio (d + 1) dt13 hI14 K V S t hz ht 4 ⟨by decide, by decide⟩ (by first | with_reducible assumption | exact unhid (by with_reducible assumption) | exact TKc_fr h_p0 hF16 (by decide) (by decide) (by decide) (by omega) | fail) (by first | with_reducible assumption | exact unhid (by with_reducible assumption) | exact TKc_fr h_p0 hF16 (by decide) (by decide) (by decide) (by fail) | fail) (by first | with_reducible assumption | exact unhid (by with_reducible assumption) | exact TKc_fr h_p0 hF16 (by decide) (by decide) (by decide) (by fail) | fail)) ?_
        rintro _ _ ⟨dt21, rfl, hI22, hF23, h20⟩
        refine ⟨rfl, ?_⟩
        have hF24 : Fr [35] dt dt21 := Fr_tr hF16 hF23 (by decide)
        rcases h20 with ⟨v_h20, rfl, h20r, h20⟩
        obtain ⟨h20_0, h20_1, h20_2, h20_3, h20_4, h20_5, h20_6, h20_7, h20_8⟩ := h20
        replace h20_2 := hid h20_2
        replace h20_4 := hid h20_4
        have ha3_ := SPX_at h20_0 (by (have z_ := unhid h12_2; omega)) (by omega) (fun _ z_ => gA_at z_)
        have hv3_ : dt21 35 2 = 0 → v_h20 = V (dt13 35 8).toNat := h20_4
        replace hv3_ := hid hv3_
        have X25 : PX S t (gAc K V p1) (gA3 K V p1) dt dt21 := PX_st X17 h20_0 (fun hl => by first | ((repeat (first | rw [gA0_n (by fail)] | rw [gA1_n (by fail)] | rw [gA2_n (by fail)] | rw [gA3_n (by fail)])); exact gA2_p (by omega)) | (exfalso; fail))
        have r26 : -2147483648 ≤ am_shl v_h20 10 ∧ am_shl v_h20 10 ≤ 2147483647 := am_shl_R
        have r27 : -2147483648 ≤ am_or (am_or (am_or p1 (am_shl v_h3 4)) (am_shl v_h12 8)) (am_shl v_h20 10) ∧ am_or (am_or (am_or p1 (am_shl v_h3 4)) (am_shl v_h12 8)) (am_shl v_h20 10) ≤ 2147483647 := am_or_R
        refine go_ifq PM26 (k := 6) (p1 := 112) (p2 := 101) (L' := [some (.inr (.inr (some 35))), some (.inl p1), some (.inl 1), some (.inl (am_or (am_or (am_or p1 (am_shl v_h3 4)) (am_shl v_h12 8)) (am_shl v_h20 10))), some (.inl v_h3)]) (st' := []) (w' := (SH, dt21)) rfl (c_ne (a := p1) (b := 6) (by first | exact bnd h_p1 (by decide) (by decide) | exact ⟨by omega, by omega⟩) ⟨by decide, by decide⟩) (fun c28 => ?_) (fun c28 => ?_)
        · skip
          replace c28 := hid c28
          refine go_ifq PM26 (k := 2) (p1 := 129) (p2 := 118) (L' := [some (.inr (.inr (some 35))), some (.inl p1), some (.inl 1), some (.inl (am_or (am_or (am_or p1 (am_shl v_h3 4)) (am_shl v_h12 8)) (am_shl v_h20 10))), some (.inl v_h3)]) (st' := []) (w' := (SH, dt21)) rfl (c_ne (a := p1) (b := 8) (by first | exact bnd h_p1 (by decide) (by decide) | exact ⟨by omega, by omega⟩) ⟨by decide, by decide⟩) (fun c29 => ?_) (fun c29 => ?_)
          · skip
            have qc29 : p1 ≤ 7 := by omega
            replace c29 := hid c29
            refine go_retq PM26 (k := 1) (r := some (.inl (am_or (am_or (am_or p1 (am_shl v_h3 4)) (am_shl v_h12 8)) (am_shl v_h20 10)))) (w1 := (SH, dt21)) rfl ?_
            exact ⟨dt21, rfl, hI22, hF24, ⟨_, rfl, (by first | exact bnd r27 (by decide) (by decide) | exact ⟨by fail, by fail⟩), ⟨by first | exact PX_e X25 (by fail) | exact PX_e (PX_g X25 (fun _ => by first | ((repeat (first | rw [gA0_n (by fail)] | rw [gA1_n (by fail)] | rw [gA2_n (by fail)] | rw [gA3_n (by omega)])); done) | (exfalso; fail))) (by omega), by first | exact True.intro | with_reducible assumption | exact unhid (by with_reducible assumption) | rfl | fail | trivial, by first | exact True.intro | with_reducible assumption | exact unhid (by with_reducible assumption) | rfl | fail | trivial, by first | exact True.intro | with_reducible assumption | exact unhid (by with_reducible assumption) | rfl | omega | trivial, by intro z_; first | exact AE_2 (by omega) ⟨by omega, by omega⟩ ⟨by omega, by omega⟩ ⟨by omega, by omega⟩ (hv1_ (by omega)) (by have y_ := hv2_ (by omega); rw [y_]; congr 1; omega) (by have y_ := hv3_ (by omega); rw [y_]; congr 1; omega) rfl | (exfalso; fail), by first | exact True.intro | with_reducible assumption | exact unhid (by with_reducible assumption) | rfl | omega | trivial, by first | exact True.intro | with_reducible assumption | exact unhid (by with_reducible assumption) | rfl | omega | trivial, by first | exact True.intro | with_reducible assumption | exact unhid (by with_reducible assumption) | rfl | omega | trivial⟩⟩⟩
          · exfalso; omega
        · exfalso; omega
      · exfalso; omega
  · skip
    replace c1 := hid c1
    refine go_ifq PM26 (k := 2) (p1 := 15) (p2 := 10) (L' := [some (.inr (.inr (some 35))), some (.inl p1), none, none, none]) (st' := []) (w' := (SH, dt)) rfl (c_eq (a := p1) (b := 3) (by first | exact bnd h_p1 (by decide) (by decide) | exact ⟨by omega, by omega⟩) ⟨by decide, by decide⟩) (fun c30 => ?_) (fun c30 => ?_)
    · skip
      refine go_ifq PM26 (k := 7) (p1 := 60) (p2 := 29) (L' := [some (.inr (.inr (some 35))), some (.inl p1), some (.inl 1), some (.inl p1), none]) (st' := []) (w' := (SH, dt)) rfl (c_eq (a := p1) (b := 8) (by first | exact bnd h_p1 (by decide) (by decide) | exact ⟨by omega, by omega⟩) ⟨by decide, by decide⟩) (fun c31 => ?_) (fun c31 => ?_)
      · exfalso; omega
      · skip
        have qc31 : p1 ≤ 7 := by omega
        replace c31 := hid c31
        refine go_toq PM26 (k := 2) (pc' := 31) (L' := [some (.inr (.inr (some 35))), some (.inl p1), some (.inl 1), some (.inl p1), none]) (st' := [.inl 4, .inr (.inr (some 35))]) (w' := (SH, dt)) rfl ?_
        refine go_callq PM26 PM24 (Q' := _) rfl rfl rfl rfl (sp_X1_oneOf_f L xs sio (d + 1) dt hI K V S t hz ht 4 ⟨by decide, by decide⟩ (by first | with_reducible assumption | exact unhid (by with_reducible assumption) | exact TKc_fr h_p0 hF (by decide) (by decide) (by decide) (by fail) | fail) (by first | with_reducible assumption | exact unhid (by with_reducible assumption) | exact TKc_fr h_p0 hF (by decide) (by decide) (by decide) (by fail) | fail) (by first | with_reducible assumption | exact unhid (by with_reducible assumption) | exact TKc_fr h_p0 hF (by decide) (by decide) (by decide) (by fail) | fail)) ?_
        rintro _ _ ⟨dt33, rfl, hI34, hF35, h32⟩
        refine ⟨rfl, ?_⟩
        have hF36 : Fr [35] dt dt33 := Fr_tr hF hF35 (by decide)
        rcases h32 with ⟨v_h32, rfl, h32r, h32⟩
        obtain ⟨h32_0, h32_1, h32_2, h32_3, h32_4, h32_5, h32_6, h32_7, h32_8⟩ := h32
        replace h32_2 := hid h32_2
        replace h32_4 := hid h32_4
        have ha1_ := SPX_at h32_0 (by (have z_ := unhid h_p2; omega)) (by omega) (fun _ z_ => gA_at z_)
        have hv1_ : dt33 35 2 = 0 → v_h32 = V (dt 35 8).toNat := h32_4
        replace hv1_ := hid hv1_
        have X37 : PX S t (gAc K V p1) (gA0 K V p1 (V (dt 35 8).toNat)) dt dt33 := PX_st PX_0 h32_0 (fun hl => by first | exact gAc_n (by omega) | (exfalso; fail))
        have r38 : -2147483648 ≤ am_shl v_h32 4 ∧ am_shl v_h32 4 ≤ 2147483647 := am_shl_R
        have r39 : -2147483648 ≤ am_or p1 (am_shl v_h32 4) ∧ am_or p1 (am_shl v_h32 4) ≤ 2147483647 := am_or_R
        refine go_ifq PM26 (k := 9) (p1 := 60) (p2 := 48) (L' := [some (.inr (.inr (some 35))), some (.inl p1), some (.inl 1), some (.inl (am_or p1 (am_shl v_h32 4))), some (.inl v_h32)]) (st' := []) (w' := (SH, dt33)) rfl (c_ne (a := p1) (b := 4) (by first | exact bnd h_p1 (by decide) (by decide) | exact ⟨by omega, by omega⟩) ⟨by decide, by decide⟩) (fun c40 => ?_) (fun c40 => ?_)
        · skip
          replace c40 := hid c40
          refine go_toq PM26 (k := 5) (pc' := 67) (L' := [some (.inr (.inr (some 35))), some (.inl p1), some (.inl 1), some (.inl (am_or p1 (am_shl v_h32 4))), some (.inl v_h32)]) (st' := [.inl 3, .inr (.inr (some 35)), .inl (am_or p1 (am_shl v_h32 4))]) (w' := (SH, dt33)) rfl ?_
          refine go_callq PM26 PM24 (Q' := _) rfl rfl rfl rfl (sp_X1_oneOf_f L xs sio (d + 1) dt33 hI34 K V S t hz ht 3 ⟨by decide, by decide⟩ (by first | with_reducible assumption | exact unhid (by with_reducible assumption) | exact TKc_fr h_p0 hF36 (by decide) (by decide) (by decide) (by omega) | fail) (by first | with_reducible assumption | exact unhid (by with_reducible assumption) | exact TKc_fr h_p0 hF36 (by decide) (by decide) (by decide) (by fail) | fail) (by first | with_reducible assumption | exact unhid (by with_reducible assumption) | exact TKc_fr h_p0 hF36 (by decide) (by decide) (by decide) (by fail) | fail)) ?_
          rintro _ _ ⟨dt42, rfl, hI43, hF44, h41⟩
          refine ⟨rfl, ?_⟩
          have hF45 : Fr [35] dt dt42 := Fr_tr hF36 hF44 (by decide)
          rcases h41 with ⟨v_h41, rfl, h41r, h41⟩
          obtain ⟨h41_0, h41_1, h41_2, h41_3, h41_4, h41_5, h41_6, h41_7, h41_8⟩ := h41
          replace h41_2 := hid h41_2
          replace h41_4 := hid h41_4
          have ha2_ := SPX_at h41_0 (by (have z_ := unhid h32_2; omega)) (by omega) (fun _ z_ => gA_at z_)
          have hv2_ : dt42 35 2 = 0 → v_h41 = V (dt33 35 8).toNat := h41_4
          replace hv2_ := hid hv2_
          have X46 : PX S t (gAc K V p1) (gA2 K V p1) dt dt42 := PX_st X37 h41_0 (fun hl => by first | ((repeat (first | rw [gA0_n (by omega)] | rw [gA1_n (by fail)] | rw [gA2_n (by fail)] | rw [gA3_n (by fail)])); exact gA1_p (by omega)) | (exfalso; fail))
          have r47 : -2147483648 ≤ am_shl v_h41 8 ∧ am_shl v_h41 8 ≤ 2147483647 := am_shl_R
          have r48 : -2147483648 ≤ am_or (am_or p1 (am_shl v_h32 4)) (am_shl v_h41 8) ∧ am_or (am_or p1 (am_shl v_h32 4)) (am_shl v_h41 8) ≤ 2147483647 := am_or_R
          refine go_toq PM26 (k := 9) (pc' := 87) (L' := [some (.inr (.inr (some 35))), some (.inl p1), some (.inl 1), some (.inl (am_or (am_or p1 (am_shl v_h32 4)) (am_shl v_h41 8))), some (.inl v_h32)]) (st' := [.inl 4, .inr (.inr (some 35)), .inl (am_or (am_or p1 (am_shl v_h32 4)) (am_shl v_h41 8))]) (w' := (SH, dt42)) rfl ?_
          refine go_callq PM26 PM24 (Q' := _) rfl rfl rfl rfl (sp_X1_oneOf_f L xs sio (d + 1) dt42 hI43 K V S t hz ht 4 ⟨by decide, by decide⟩ (by first | with_reducible assumption | exact unhid (by with_reducible assumption) | exact TKc_fr h_p0 hF45 (by decide) (by decide) (by decide) (by omega) | fail) (by first | with_reducible assumption | exact unhid (by with_reducible assumption) | exact TKc_fr h_p0 hF45 (by decide) (by decide) (by decide) (by fail) | fail) (by first | with_reducible assumption | exact unhid (by with_reducible assumption) | exact TKc_fr h_p0 hF45 (by decide) (by decide) (by decide) (by fail) | fail)) ?_
          rintro _ _ ⟨dt50, rfl, hI51, hF52, h49⟩
          refine ⟨rfl, ?_⟩
          have hF53 : Fr [35] dt dt50 := Fr_tr hF45 hF52 (by decide)
          rcases h49 with ⟨v_h49, rfl, h49r, h49⟩
          obtain ⟨h49_0, h49_1, h49_2, h49_3, h49_4, h49_5, h49_6, h49_7, h49_8⟩ := h49
          replace h49_2 := hid h49_2
          replace h49_4 := hid h49_4
          have ha3_ := SPX_at h49_0 (by (have z_ := unhid h41_2; omega)) (by omega) (fun _ z_ => gA_at z_)
          have hv3_ : dt50 35 2 = 0 → v_h49 = V (dt42 35 8).toNat := h49_4
          replace hv3_ := hid hv3_
          have X54 : PX S t (gAc K V p1) (gA3 K V p1) dt dt50 := PX_st X46 h49_0 (fun hl => by first | ((repeat (first | rw [gA0_n (by fail)] | rw [gA1_n (by fail)] | rw [gA2_n (by fail)] | rw [gA3_n (by fail)])); exact gA2_p (by omega)) | (exfalso; fail))
          have r55 : -2147483648 ≤ am_shl v_h49 10 ∧ am_shl v_h49 10 ≤ 2147483647 := am_shl_R
          have r56 : -2147483648 ≤ am_or (am_or (am_or p1 (am_shl v_h32 4)) (am_shl v_h41 8)) (am_shl v_h49 10) ∧ am_or (am_or (am_or p1 (am_shl v_h32 4)) (am_shl v_h41 8)) (am_shl v_h49 10) ≤ 2147483647 := am_or_R
          refine go_ifq PM26 (k := 6) (p1 := 112) (p2 := 101) (L' := [some (.inr (.inr (some 35))), some (.inl p1), some (.inl 1), some (.inl (am_or (am_or (am_or p1 (am_shl v_h32 4)) (am_shl v_h41 8)) (am_shl v_h49 10))), some (.inl v_h32)]) (st' := []) (w' := (SH, dt50)) rfl (c_ne (a := p1) (b := 6) (by first | exact bnd h_p1 (by decide) (by decide) | exact ⟨by omega, by omega⟩) ⟨by decide, by decide⟩) (fun c57 => ?_) (fun c57 => ?_)
          · skip
            replace c57 := hid c57
            refine go_ifq PM26 (k := 2) (p1 := 129) (p2 := 118) (L' := [some (.inr (.inr (some 35))), some (.inl p1), some (.inl 1), some (.inl (am_or (am_or (am_or p1 (am_shl v_h32 4)) (am_shl v_h41 8)) (am_shl v_h49 10))), some (.inl v_h32)]) (st' := []) (w' := (SH, dt50)) rfl (c_ne (a := p1) (b := 8) (by first | exact bnd h_p1 (by decide) (by decide) | exact ⟨by omega, by omega⟩) ⟨by decide, by decide⟩) (fun c58 => ?_) (fun c58 => ?_)
            · skip
              have qc58 : p1 ≤ 7 := by omega
              replace c58 := hid c58
              refine go_retq PM26 (k := 1) (r := some (.inl (am_or (am_or (am_or p1 (am_shl v_h32 4)) (am_shl v_h41 8)) (am_shl v_h49 10)))) (w1 := (SH, dt50)) rfl ?_
              exact ⟨dt50, rfl, hI51, hF53, ⟨_, rfl, (by first | exact bnd r56 (by decide) (by decide) | exact ⟨by fail, by fail⟩), ⟨by first | exact PX_e X54 (by fail) | exact PX_e (PX_g X54 (fun _ => by first | ((repeat (first | rw [gA0_n (by fail)] | rw [gA1_n (by fail)] | rw [gA2_n (by fail)] | rw [gA3_n (by omega)])); done) | (exfalso; fail))) (by omega), by first | exact True.intro | with_reducible assumption | exact unhid (by with_reducible assumption) | rfl | fail | trivial, by first | exact True.intro | with_reducible assumption | exact unhid (by with_reducible assumption) | rfl | fail | trivial, by first | exact True.intro | with_reducible assumption | exact unhid (by with_reducible assumption) | rfl | omega | trivial, by intro z_; first | exact AE_2 (by omega) ⟨by omega, by omega⟩ ⟨by omega, by omega⟩ ⟨by omega, by omega⟩ (hv1_ (by omega)) (by have y_ := hv2_ (by omega); rw [y_]; congr 1; omega) (by have y_ := hv3_ (by omega); rw [y_]; congr 1; omega) rfl | (exfalso; fail), by first | exact True.intro | with_reducible assumption | exact unhid (by with_reducible assumption) | rfl | omega | trivial, by first | exact True.intro | with_reducible assumption | exact unhid (by with_reducible assumption) | rfl | omega | trivial, by first | exact True.intro | with_reducible assumption | exact unhid (by with_reducible assumption) | rfl | omega | trivial⟩⟩⟩
            · exfalso; omega
          · exfalso; omega
        · exfalso; omega
    · skip
      replace c30 := hid c30
      refine go_ifq PM26 (k := 2) (p1 := 19) (p2 := 15) (L' := [some (.inr (.inr (some 35))), some (.inl p1), none, none, none]) (st' := []) (w' := (SH, dt)) rfl (c_ne (a := p1) (b := 4) (by first | exact bnd h_p1 (by decide) (by decide) | exact ⟨by omega, by omega⟩) ⟨by decide, by decide⟩) (fun c59 => ?_) (fun c59 => ?_)
      · skip
        replace c59 := hid c59
        refine go_ifq PM26 (k := 6) (p1 := 60) (p2 := 29) (L' := [some (.inr (.inr (some 35))), some (.inl p1), some (.inl 0), some (.inl p1), none]) (st' := []) (w' := (SH, dt)) rfl (c_eq (a := p1) (b := 8) (by first | exact bnd h_p1 (by decide) (by decide) | exact ⟨by omega, by omega⟩) ⟨by decide, by decide⟩) (fun c60 => ?_) (fun c60 => ?_)
        · skip
          refine go_ifq PM26 (k := 6) (p1 := 95) (p2 := 84) (L' := [some (.inr (.inr (some 35))), some (.inl p1), some (.inl 0), some (.inl p1), none]) (st' := []) (w' := (SH, dt)) rfl (c_ne (a := p1) (b := 5) (by first | exact bnd h_p1 (by decide) (by decide) | exact ⟨by omega, by omega⟩) ⟨by decide, by decide⟩) (fun c61 => ?_) (fun c61 => ?_)
          · skip
            replace c61 := hid c61
            refine go_ifq PM26 (k := 2) (p1 := 112) (p2 := 101) (L' := [some (.inr (.inr (some 35))), some (.inl p1), some (.inl 0), some (.inl p1), none]) (st' := []) (w' := (SH, dt)) rfl (c_ne (a := p1) (b := 6) (by first | exact bnd h_p1 (by decide) (by decide) | exact ⟨by omega, by omega⟩) ⟨by decide, by decide⟩) (fun c62 => ?_) (fun c62 => ?_)
            · skip
              replace c62 := hid c62
              refine go_ifq PM26 (k := 2) (p1 := 129) (p2 := 118) (L' := [some (.inr (.inr (some 35))), some (.inl p1), some (.inl 0), some (.inl p1), none]) (st' := []) (w' := (SH, dt)) rfl (c_ne (a := p1) (b := 8) (by first | exact bnd h_p1 (by decide) (by decide) | exact ⟨by omega, by omega⟩) ⟨by decide, by decide⟩) (fun c63 => ?_) (fun c63 => ?_)
              · skip
                have qc63 : p1 ≤ 7 := by omega
                replace c63 := hid c63
                refine go_retq PM26 (k := 1) (r := some (.inl p1)) (w1 := (SH, dt)) rfl ?_
                exact ⟨dt, rfl, hI, hF, ⟨_, rfl, (by first | exact bnd h_p1 (by decide) (by decide) | exact ⟨by omega, by omega⟩), ⟨by first | exact PX_e PX_0 (by omega) | exact PX_e (PX_g PX_0 (fun _ => by first | ((repeat (first | rw [gA0_n (by fail)] | rw [gA1_n (by fail)] | rw [gA2_n (by fail)] | rw [gA3_n (by fail)])); done) | (exfalso; omega))) (by omega), by first | exact True.intro | with_reducible assumption | exact unhid (by with_reducible assumption) | rfl | fail | trivial, by first | exact True.intro | with_reducible assumption | exact unhid (by with_reducible assumption) | rfl | fail | trivial, by first | exact True.intro | with_reducible assumption | exact unhid (by with_reducible assumption) | rfl | omega | trivial, by intro z_; (exfalso; omega), by first | exact True.intro | with_reducible assumption | exact unhid (by with_reducible assumption) | rfl | fail | trivial, by first | exact True.intro | with_reducible assumption | exact unhid (by with_reducible assumption) | rfl | fail | trivial, by first | exact True.intro | with_reducible assumption | exact unhid (by with_reducible assumption) | rfl | fail | trivial⟩⟩⟩
              · skip
                refine go_toq PM26 (k := 3) (pc' := 121) (L' := [some (.inr (.inr (some 35))), some (.inl p1), some (.inl 0), some (.inl p1), none]) (st' := [.inl 2, .inr (.inr (some 35)), .inl p1]) (w' := (SH, dt)) rfl ?_
                refine go_callq PM26 PM24 (Q' := _) rfl rfl rfl rfl (sp_X1_oneOf_f L xs sio (d + 1) dt hI K V S t hz ht 2 ⟨by decide, by decide⟩ (by first | with_reducible assumption | exact unhid (by with_reducible assumption) | exact TKc_fr h_p0 hF (by decide) (by decide) (by decide) (by fail) | fail) (by first | with_reducible assumption | exact unhid (by with_reducible assumption) | exact TKc_fr h_p0 hF (by decide) (by decide) (by decide) (by fail) | fail) (by first | with_reducible assumption | exact unhid (by with_reducible assumption) | exact TKc_fr h_p0 hF (by decide) (by decide) (by decide) (by fail) | fail)) ?_
                rintro _ _ ⟨dt65, rfl, hI66, hF67, h64⟩
                refine ⟨rfl, ?_⟩
                have hF68 : Fr [35] dt dt65 := Fr_tr hF hF67 (by decide)
                rcases h64 with ⟨v_h64, rfl, h64r, h64⟩
                obtain ⟨h64_0, h64_1, h64_2, h64_3, h64_4, h64_5, h64_6, h64_7, h64_8⟩ := h64
                replace h64_2 := hid h64_2
                replace h64_4 := hid h64_4
                have ha1_ := SPX_at h64_0 (by (have z_ := unhid h_p2; omega)) (by omega) (fun _ z_ => gA_at z_)
                have hv1_ : dt65 35 2 = 0 → v_h64 = V (dt 35 8).toNat := h64_4
                replace hv1_ := hid hv1_
                have X69 : PX S t (gAc K V p1) gOk dt dt65 := PX_st PX_0 h64_0 (fun hl => by first | (exact gAc_p (by omega)) | (exfalso; fail))
                have r70 : -2147483648 ≤ am_shl v_h64 13 ∧ am_shl v_h64 13 ≤ 2147483647 := am_shl_R
                have r71 : -2147483648 ≤ am_or p1 (am_shl v_h64 13) ∧ am_or p1 (am_shl v_h64 13) ≤ 2147483647 := am_or_R
                refine go_retq PM26 (k := 5) (r := some (.inl (am_or p1 (am_shl v_h64 13)))) (w1 := (SH, dt65)) rfl ?_
                exact ⟨dt65, rfl, hI66, hF68, ⟨_, rfl, (by first | exact bnd r71 (by decide) (by decide) | exact ⟨by fail, by fail⟩), ⟨by first | exact PX_e X69 (by omega) | exact PX_e (PX_g X69 (fun _ => by first | ((repeat (first | rw [gA0_n (by fail)] | rw [gA1_n (by fail)] | rw [gA2_n (by fail)] | rw [gA3_n (by fail)])); done) | (exfalso; fail))) (by fail), by first | exact True.intro | with_reducible assumption | exact unhid (by with_reducible assumption) | rfl | fail | trivial, by first | exact True.intro | with_reducible assumption | exact unhid (by with_reducible assumption) | rfl | fail | trivial, by first | exact True.intro | with_reducible assumption | exact unhid (by with_reducible assumption) | rfl | fail | trivial, by intro z_; first | exact AE_8 (by omega) ⟨by omega, by omega⟩ (hv1_ (by omega)) rfl | (exfalso; fail), by first | exact True.intro | with_reducible assumption | exact unhid (by with_reducible assumption) | rfl | fail | trivial, by first | exact True.intro | with_reducible assumption | exact unhid (by with_reducible assumption) | rfl | fail | trivial, by first | exact True.intro | with_reducible assumption | exact unhid (by with_reducible assumption) | rfl | fail | trivial⟩⟩⟩
            · exfalso; omega
          · exfalso; omega
        · skip
          have qc60 : p1 ≤ 7 := by omega
          replace c60 := hid c60
          refine go_toq PM26 (k := 2) (pc' := 31) (L' := [some (.inr (.inr (some 35))), some (.inl p1), some (.inl 0), some (.inl p1), none]) (st' := [.inl 4, .inr (.inr (some 35))]) (w' := (SH, dt)) rfl ?_
          refine go_callq PM26 PM24 (Q' := _) rfl rfl rfl rfl (sp_X1_oneOf_f L xs sio (d + 1) dt hI K V S t hz ht 4 ⟨by decide, by decide⟩ (by first | with_reducible assumption | exact unhid (by with_reducible assumption) | exact TKc_fr h_p0 hF (by decide) (by decide) (by decide) (by fail) | fail) (by first | with_reducible assumption | exact unhid (by with_reducible assumption) | exact TKc_fr h_p0 hF (by decide) (by decide) (by decide) (by fail) | fail) (by first | with_reducible assumption | exact unhid (by with_reducible assumption) | exact TKc_fr h_p0 hF (by decide) (by decide) (by decide) (by fail) | fail)) ?_
          rintro _ _ ⟨dt73, rfl, hI74, hF75, h72⟩
          refine ⟨rfl, ?_⟩
          have hF76 : Fr [35] dt dt73 := Fr_tr hF hF75 (by decide)
          rcases h72 with ⟨v_h72, rfl, h72r, h72⟩
          obtain ⟨h72_0, h72_1, h72_2, h72_3, h72_4, h72_5, h72_6, h72_7, h72_8⟩ := h72
          replace h72_2 := hid h72_2
          replace h72_4 := hid h72_4
          have ha1_ := SPX_at h72_0 (by (have z_ := unhid h_p2; omega)) (by omega) (fun _ z_ => gA_at z_)
          have hv1_ : dt73 35 2 = 0 → v_h72 = V (dt 35 8).toNat := h72_4
          replace hv1_ := hid hv1_
          have X77 : PX S t (gAc K V p1) (gA0 K V p1 (V (dt 35 8).toNat)) dt dt73 := PX_st PX_0 h72_0 (fun hl => by first | exact gAc_n (by omega) | (exfalso; fail))
          have r78 : -2147483648 ≤ am_shl v_h72 4 ∧ am_shl v_h72 4 ≤ 2147483647 := am_shl_R
          have r79 : -2147483648 ≤ am_or p1 (am_shl v_h72 4) ∧ am_or p1 (am_shl v_h72 4) ≤ 2147483647 := am_or_R
          refine go_ifq PM26 (k := 9) (p1 := 60) (p2 := 48) (L' := [some (.inr (.inr (some 35))), some (.inl p1), some (.inl 0), some (.inl (am_or p1 (am_shl v_h72 4))), some (.inl v_h72)]) (st' := []) (w' := (SH, dt73)) rfl (c_ne (a := p1) (b := 4) (by first | exact bnd h_p1 (by decide) (by decide) | exact ⟨by omega, by omega⟩) ⟨by decide, by decide⟩) (fun c80 => ?_) (fun c80 => ?_)
          · skip
            replace c80 := hid c80
            refine go_ifq PM26 (k := 6) (p1 := 95) (p2 := 84) (L' := [some (.inr (.inr (some 35))), some (.inl p1), some (.inl 0), some (.inl (am_or p1 (am_shl v_h72 4))), some (.inl v_h72)]) (st' := []) (w' := (SH, dt73)) rfl (c_ne (a := p1) (b := 5) (by first | exact bnd h_p1 (by decide) (by decide) | exact ⟨by omega, by omega⟩) ⟨by decide, by decide⟩) (fun c81 => ?_) (fun c81 => ?_)
            · skip
              replace c81 := hid c81
              refine go_ifq PM26 (k := 2) (p1 := 112) (p2 := 101) (L' := [some (.inr (.inr (some 35))), some (.inl p1), some (.inl 0), some (.inl (am_or p1 (am_shl v_h72 4))), some (.inl v_h72)]) (st' := []) (w' := (SH, dt73)) rfl (c_ne (a := p1) (b := 6) (by first | exact bnd h_p1 (by decide) (by decide) | exact ⟨by omega, by omega⟩) ⟨by decide, by decide⟩) (fun c82 => ?_) (fun c82 => ?_)
              · skip
                replace c82 := hid c82
                refine go_ifq PM26 (k := 2) (p1 := 129) (p2 := 118) (L' := [some (.inr (.inr (some 35))), some (.inl p1), some (.inl 0), some (.inl (am_or p1 (am_shl v_h72 4))), some (.inl v_h72)]) (st' := []) (w' := (SH, dt73)) rfl (c_ne (a := p1) (b := 8) (by first | exact bnd h_p1 (by decide) (by decide) | exact ⟨by omega, by omega⟩) ⟨by decide, by decide⟩) (fun c83 => ?_) (fun c83 => ?_)
                · skip
                  have qc83 : p1 ≤ 7 := by omega
                  replace c83 := hid c83
                  refine go_retq PM26 (k := 1) (r := some (.inl (am_or p1 (am_shl v_h72 4)))) (w1 := (SH, dt73)) rfl ?_
                  have u51_ := hid (And.intro (unhid h_p2) (And.intro (unhid hv0) (And.intro (unhid c1) (And.intro (unhid c30) (And.intro (unhid c59) (And.intro (unhid c60) (And.intro (unhid h72_2) (And.intro (unhid h72_4) (And.intro (unhid hv1_) (And.intro (unhid c80) (And.intro (unhid c81) (And.intro (unhid c82) (unhid c83)))))))))))))
                  exact ⟨dt73, rfl, hI74, hF76, ⟨_, rfl, (by first | exact bnd r79 (by decide) (by decide) | exact ⟨by fail, by fail⟩), ⟨by first | exact PX_e X77 (by fail) | exact PX_e (PX_g X77 (fun _ => by first | ((repeat (first | rw [gA0_n (by (have z_ := unhid c80; omega))] | rw [gA1_n (by (have z_ := unhid u51_; omega))] | rw [gA2_n (by (have z_ := unhid u51_; omega))] | rw [gA3_n (by (have z_ := unhid c82; omega))])); done) | (exfalso; fail))) (by omega), by first | exact True.intro | with_reducible assumption | exact unhid (by with_reducible assumption) | rfl | fail | trivial, by first | exact True.intro | with_reducible assumption | exact unhid (by with_reducible assumption) | rfl | fail | trivial, by first | exact True.intro | with_reducible assumption | exact unhid (by with_reducible assumption) | rfl | fail | trivial, by intro z_; first | exact AE_0 (by (have z_ := unhid u51_; omega)) ⟨by omega, by omega⟩ (hv1_ (by omega)) rfl | (exfalso; fail), by first | exact True.intro | with_reducible assumption | exact unhid (by with_reducible assumption) | rfl | fail | trivial, by first | exact True.intro | with_reducible assumption | exact unhid (by with_reducible assumption) | rfl | fail | trivial, by first | exact True.intro | with_reducible assumption | exact unhid (by with_reducible assumption) | rfl | fail | trivial⟩⟩⟩
                · exfalso; omega
              · skip
                refine go_toq PM26 (k := 3) (pc' := 104) (L' := [some (.inr (.inr (some 35))), some (.inl p1), some (.inl 0), some (.inl (am_or p1 (am_shl v_h72 4))), some (.inl v_h72)]) (st' := [.inl 2, .inr (.inr (some 35)), .inl (am_or p1 (am_shl v_h72 4))]) (w' := (SH, dt73)) rfl ?_
                refine go_callq PM26 PM24 (Q' := _) rfl rfl rfl rfl (sp_X1_oneOf_f L xs sio (d + 1) dt73 hI74 K V S t hz ht 2 ⟨by decide, by decide⟩ (by first | with_reducible assumption | exact unhid (by with_reducible assumption) | exact TKc_fr h_p0 hF76 (by decide) (by decide) (by decide) (by omega) | fail) (by first | with_reducible assumption | exact unhid (by with_reducible assumption) | exact TKc_fr h_p0 hF76 (by decide) (by decide) (by decide) (by fail) | fail) (by first | with_reducible assumption | exact unhid (by with_reducible assumption) | exact TKc_fr h_p0 hF76 (by decide) (by decide) (by decide) (by fail) | fail)) ?_
                rintro _ _ ⟨dt85, rfl, hI86, hF87, h84⟩
                refine ⟨rfl, ?_⟩
                have hF88 : Fr [35] dt dt85 := Fr_tr hF76 hF87 (by decide)
                rcases h84 with ⟨v_h84, rfl, h84r, h84⟩
                obtain ⟨h84_0, h84_1, h84_2, h84_3, h84_4, h84_5, h84_6, h84_7, h84_8⟩ := h84
                replace h84_2 := hid h84_2
                replace h84_4 := hid h84_4
                have ha2_ := SPX_at h84_0 (by (have z_ := unhid h72_2; omega)) (by omega) (fun _ z_ => gA_at z_)
                have hv2_ : dt85 35 2 = 0 → v_h84 = V (dt73 35 8).toNat := h84_4
                replace hv2_ := hid hv2_
                have X89 : PX S t (gAc K V p1) gOk dt dt85 := PX_st X77 h84_0 (fun hl => by first | ((repeat (first | rw [gA0_n (by omega)] | rw [gA1_n (by omega)] | rw [gA2_n (by omega)] | rw [gA3_n (by fail)])); exact gA3_p (by omega)) | (exfalso; fail))
                have r90 : -2147483648 ≤ am_shl v_h84 12 ∧ am_shl v_h84 12 ≤ 2147483647 := am_shl_R
                have r91 : -2147483648 ≤ am_or (am_or p1 (am_shl v_h72 4)) (am_shl v_h84 12) ∧ am_or (am_or p1 (am_shl v_h72 4)) (am_shl v_h84 12) ≤ 2147483647 := am_or_R
                refine go_ifq PM26 (k := 6) (p1 := 129) (p2 := 118) (L' := [some (.inr (.inr (some 35))), some (.inl p1), some (.inl 0), some (.inl (am_or (am_or p1 (am_shl v_h72 4)) (am_shl v_h84 12))), some (.inl v_h72)]) (st' := []) (w' := (SH, dt85)) rfl (c_ne (a := p1) (b := 8) (by first | exact bnd h_p1 (by decide) (by decide) | exact ⟨by omega, by omega⟩) ⟨by decide, by decide⟩) (fun c92 => ?_) (fun c92 => ?_)
                · skip
                  have qc92 : p1 ≤ 7 := by omega
                  replace c92 := hid c92
                  refine go_retq PM26 (k := 1) (r := some (.inl (am_or (am_or p1 (am_shl v_h72 4)) (am_shl v_h84 12)))) (w1 := (SH, dt85)) rfl ?_
                  exact ⟨dt85, rfl, hI86, hF88, ⟨_, rfl, (by first | exact bnd r91 (by decide) (by decide) | exact ⟨by fail, by fail⟩), ⟨by first | exact PX_e X89 (by omega) | exact PX_e (PX_g X89 (fun _ => by first | ((repeat (first | rw [gA0_n (by fail)] | rw [gA1_n (by fail)] | rw [gA2_n (by fail)] | rw [gA3_n (by fail)])); done) | (exfalso; fail))) (by fail), by first | exact True.intro | with_reducible assumption | exact unhid (by with_reducible assumption) | rfl | fail | trivial, by first | exact True.intro | with_reducible assumption | exact unhid (by with_reducible assumption) | rfl | fail | trivial, by first | exact True.intro | with_reducible assumption | exact unhid (by with_reducible assumption) | rfl | omega | trivial, by intro z_; first | exact AE_6 (by omega) ⟨by omega, by omega⟩ ⟨by omega, by omega⟩ (hv1_ (by omega)) (by have y_ := hv2_ (by omega); rw [y_]; congr 1; omega) rfl | (exfalso; fail), by first | exact True.intro | with_reducible assumption | exact unhid (by with_reducible assumption) | rfl | omega | trivial, by first | exact True.intro | with_reducible assumption | exact unhid (by with_reducible assumption) | rfl | omega | trivial, by first | exact True.intro | with_reducible assumption | exact unhid (by with_reducible assumption) | rfl | omega | trivial⟩⟩⟩
                · exfalso; omega
            · skip
              refine go_toq PM26 (k := 3) (pc' := 87) (L' := [some (.inr (.inr (some 35))), some (.inl p1), some (.inl 0), some (.inl (am_or p1 (am_shl v_h72 4))), some (.inl v_h72)]) (st' := [.inl 4, .inr (.inr (some 35)), .inl (am_or p1 (am_shl v_h72 4))]) (w' := (SH, dt73)) rfl ?_
              refine go_callq PM26 PM24 (Q' := _) rfl rfl rfl rfl (sp_X1_oneOf_f L xs sio (d + 1) dt73 hI74 K V S t hz ht 4 ⟨by decide, by decide⟩ (by first | with_reducible assumption | exact unhid (by with_reducible assumption) | exact TKc_fr h_p0 hF76 (by decide) (by decide) (by decide) (by omega) | fail) (by first | with_reducible assumption | exact unhid (by with_reducible assumption) | exact TKc_fr h_p0 hF76 (by decide) (by decide) (by decide) (by fail) | fail) (by first | with_reducible assumption | exact unhid (by with_reducible assumption) | exact TKc_fr h_p0 hF76 (by decide) (by decide) (by decide) (by fail) | fail)) ?_
              rintro _ _ ⟨dt94, rfl, hI95, hF96, h93⟩
              refine ⟨rfl, ?_⟩
              have hF97 : Fr [35] dt dt94 := Fr_tr hF76 hF96 (by decide)
              rcases h93 with ⟨v_h93, rfl, h93r, h93⟩
              obtain ⟨h93_0, h93_1, h93_2, h93_3, h93_4, h93_5, h93_6, h93_7, h93_8⟩ := h93
              replace h93_2 := hid h93_2
              replace h93_4 := hid h93_4
              have ha2_ := SPX_at h93_0 (by (have z_ := unhid h72_2; omega)) (by omega) (fun _ z_ => gA_at z_)
              have hv2_ : dt94 35 2 = 0 → v_h93 = V (dt73 35 8).toNat := h93_4
              replace hv2_ := hid hv2_
              have X98 : PX S t (gAc K V p1) (gA3 K V p1) dt dt94 := PX_st X77 h93_0 (fun hl => by first | ((repeat (first | rw [gA0_n (by omega)] | rw [gA1_n (by omega)] | rw [gA2_n (by fail)] | rw [gA3_n (by fail)])); exact gA2_p (by omega)) | (exfalso; fail))
              have r99 : -2147483648 ≤ am_shl v_h93 10 ∧ am_shl v_h93 10 ≤ 2147483647 := am_shl_R
              have r100 : -2147483648 ≤ am_or (am_or p1 (am_shl v_h72 4)) (am_shl v_h93 10) ∧ am_or (am_or p1 (am_shl v_h72 4)) (am_shl v_h93 10) ≤ 2147483647 := am_or_R
              refine go_ifq PM26 (k := 6) (p1 := 112) (p2 := 101) (L' := [some (.inr (.inr (some 35))), some (.inl p1), some (.inl 0), some (.inl (am_or (am_or p1 (am_shl v_h72 4)) (am_shl v_h93 10))), some (.inl v_h72)]) (st' := []) (w' := (SH, dt94)) rfl (c_ne (a := p1) (b := 6) (by first | exact bnd h_p1 (by decide) (by decide) | exact ⟨by omega, by omega⟩) ⟨by decide, by decide⟩) (fun c101 => ?_) (fun c101 => ?_)
              · skip
                replace c101 := hid c101
                refine go_ifq PM26 (k := 2) (p1 := 129) (p2 := 118) (L' := [some (.inr (.inr (some 35))), some (.inl p1), some (.inl 0), some (.inl (am_or (am_or p1 (am_shl v_h72 4)) (am_shl v_h93 10))), some (.inl v_h72)]) (st' := []) (w' := (SH, dt94)) rfl (c_ne (a := p1) (b := 8) (by first | exact bnd h_p1 (by decide) (by decide) | exact ⟨by omega, by omega⟩) ⟨by decide, by decide⟩) (fun c102 => ?_) (fun c102 => ?_)
                · skip
                  have qc102 : p1 ≤ 7 := by omega
                  replace c102 := hid c102
                  refine go_retq PM26 (k := 1) (r := some (.inl (am_or (am_or p1 (am_shl v_h72 4)) (am_shl v_h93 10)))) (w1 := (SH, dt94)) rfl ?_
                  exact ⟨dt94, rfl, hI95, hF97, ⟨_, rfl, (by first | exact bnd r100 (by decide) (by decide) | exact ⟨by fail, by fail⟩), ⟨by first | exact PX_e X98 (by fail) | exact PX_e (PX_g X98 (fun _ => by first | ((repeat (first | rw [gA0_n (by fail)] | rw [gA1_n (by fail)] | rw [gA2_n (by fail)] | rw [gA3_n (by omega)])); done) | (exfalso; fail))) (by omega), by first | exact True.intro | with_reducible assumption | exact unhid (by with_reducible assumption) | rfl | fail | trivial, by first | exact True.intro | with_reducible assumption | exact unhid (by with_reducible assumption) | rfl | fail | trivial, by first | exact True.intro | with_reducible assumption | exact unhid (by with_reducible assumption) | rfl | omega | trivial, by intro z_; first | exact AE_5 (by omega) ⟨by omega, by omega⟩ ⟨by omega, by omega⟩ (hv1_ (by omega)) (by have y_ := hv2_ (by omega); rw [y_]; congr 1; omega) rfl | (exfalso; fail), by first | exact True.intro | with_reducible assumption | exact unhid (by with_reducible assumption) | rfl | omega | trivial, by first | exact True.intro | with_reducible assumption | exact unhid (by with_reducible assumption) | rfl | omega | trivial, by first | exact True.intro | with_reducible assumption | exact unhid (by with_reducible assumption) | rfl | omega | trivial⟩⟩⟩
                · exfalso; omega
              · exfalso; omega
          · skip
            refine go_toq PM26 (k := 3) (pc' := 52) (L' := [some (.inr (.inr (some 35))), some (.inl p1), some (.inl 0), some (.inl (am_or p1 (am_shl v_h72 4))), some (.inl v_h72)]) (st' := [.inl v_h72, .inr (.inr (some 35)), .inl (am_or p1 (am_shl v_h72 4))]) (w' := (SH, dt73)) rfl ?_
            refine go_callq PM26 PM27 (Q' := _) rfl rfl rfl rfl (sp_X1_readOther_f L xs sio (d + 0) dt73 hI74 K V S t hz ht v_h72 (by first | exact bnd h72r (by decide) (by decide) | exact ⟨by fail, by fail⟩) (by first | with_reducible assumption | exact unhid (by with_reducible assumption) | exact TKc_fr h_p0 hF76 (by decide) (by decide) (by decide) (by omega) | fail) (by first | with_reducible assumption | exact unhid (by with_reducible assumption) | exact TKc_fr h_p0 hF76 (by decide) (by decide) (by decide) (by fail) | fail) (by first | with_reducible assumption | exact unhid (by with_reducible assumption) | exact TKc_fr h_p0 hF76 (by decide) (by decide) (by decide) (by fail) | fail)) ?_
            rintro _ _ ⟨dt104, rfl, hI105, hF106, h103⟩
            refine ⟨rfl, ?_⟩
            have hF107 : Fr [35] dt dt104 := Fr_tr hF76 hF106 (by decide)
            rcases h103 with ⟨v_h103, rfl, h103r, h103⟩
            obtain ⟨h103_0, h103_1, h103_2, h103_3, h103_4, h103_5, h103_6, h103_7, h103_8, h103_9⟩ := h103
            replace h103_2 := hid h103_2
            replace h103_5 := hid h103_5
            replace h103_6 := hid h103_6
            have ha2_ := SPX_at h103_0 (by (have z_ := unhid h72_2; omega)) (by omega) (fun _ z_ => gOt_at z_)
            have hv2_ : dt104 35 2 = 0 → v_h103 = V (dt73 35 8).toNat := h103_5
            replace hv2_ := hid hv2_
            have X108 : PX S t (gAc K V p1) (gA1 K V p1) dt dt104 := PX_st X77 h103_0 (fun hl => by first | (rw [gA0_p (by omega), h72_4 hl]) | (exfalso; fail))
            have r109 : -2147483648 ≤ am_shl v_h103 6 ∧ am_shl v_h103 6 ≤ 2147483647 := am_shl_R
            have r110 : -2147483648 ≤ am_or (am_or p1 (am_shl v_h72 4)) (am_shl v_h103 6) ∧ am_or (am_or p1 (am_shl v_h72 4)) (am_shl v_h103 6) ≤ 2147483647 := am_or_R
            refine go_ifq PM26 (k := 10) (p1 := 95) (p2 := 84) (L' := [some (.inr (.inr (some 35))), some (.inl p1), some (.inl 0), some (.inl (am_or (am_or p1 (am_shl v_h72 4)) (am_shl v_h103 6))), some (.inl v_h72)]) (st' := []) (w' := (SH, dt104)) rfl (c_ne (a := p1) (b := 5) (by first | exact bnd h_p1 (by decide) (by decide) | exact ⟨by omega, by omega⟩) ⟨by decide, by decide⟩) (fun c111 => ?_) (fun c111 => ?_)
            · skip
              replace c111 := hid c111
              refine go_ifq PM26 (k := 2) (p1 := 112) (p2 := 101) (L' := [some (.inr (.inr (some 35))), some (.inl p1), some (.inl 0), some (.inl (am_or (am_or p1 (am_shl v_h72 4)) (am_shl v_h103 6))), some (.inl v_h72)]) (st' := []) (w' := (SH, dt104)) rfl (c_ne (a := p1) (b := 6) (by first | exact bnd h_p1 (by decide) (by decide) | exact ⟨by omega, by omega⟩) ⟨by decide, by decide⟩) (fun c112 => ?_) (fun c112 => ?_)
              · skip
                replace c112 := hid c112
                refine go_ifq PM26 (k := 2) (p1 := 129) (p2 := 118) (L' := [some (.inr (.inr (some 35))), some (.inl p1), some (.inl 0), some (.inl (am_or (am_or p1 (am_shl v_h72 4)) (am_shl v_h103 6))), some (.inl v_h72)]) (st' := []) (w' := (SH, dt104)) rfl (c_ne (a := p1) (b := 8) (by first | exact bnd h_p1 (by decide) (by decide) | exact ⟨by omega, by omega⟩) ⟨by decide, by decide⟩) (fun c113 => ?_) (fun c113 => ?_)
                · skip
                  have qc113 : p1 ≤ 7 := by omega
                  replace c113 := hid c113
                  refine go_retq PM26 (k := 1) (r := some (.inl (am_or (am_or p1 (am_shl v_h72 4)) (am_shl v_h103 6)))) (w1 := (SH, dt104)) rfl ?_
                  exact ⟨dt104, rfl, hI105, hF107, ⟨_, rfl, (by first | exact bnd r110 (by decide) (by decide) | exact ⟨by fail, by fail⟩), ⟨by first | exact PX_e X108 (by fail) | exact PX_e (PX_g X108 (fun _ => by first | ((repeat (first | rw [gA0_n (by fail)] | rw [gA1_n (by (have z_ := unhid c59; omega))] | rw [gA2_n (by (have z_ := unhid c59; omega))] | rw [gA3_n (by omega)])); done) | (exfalso; fail))) (by omega), by first | exact True.intro | with_reducible assumption | exact unhid (by with_reducible assumption) | rfl | fail | trivial, by first | exact True.intro | with_reducible assumption | exact unhid (by with_reducible assumption) | rfl | fail | trivial, by first | exact True.intro | with_reducible assumption | exact unhid (by with_reducible assumption) | rfl | omega | trivial, by intro z_; (exfalso; (have z_ := unhid c59; omega)), by first | exact True.intro | with_reducible assumption | exact unhid (by with_reducible assumption) | rfl | omega | trivial, by first | exact True.intro | with_reducible assumption | exact unhid (by with_reducible assumption) | rfl | omega | trivial, by first | exact True.intro | with_reducible assumption | exact unhid (by with_reducible assumption) | rfl | omega | trivial⟩⟩⟩
                · exfalso; omega
              · exfalso; omega
            · exfalso; omega
      · skip
        refine go_ifq PM26 (k := 7) (p1 := 60) (p2 := 29) (L' := [some (.inr (.inr (some 35))), some (.inl p1), some (.inl 1), some (.inl p1), none]) (st' := []) (w' := (SH, dt)) rfl (c_eq (a := p1) (b := 8) (by first | exact bnd h_p1 (by decide) (by decide) | exact ⟨by omega, by omega⟩) ⟨by decide, by decide⟩) (fun c114 => ?_) (fun c114 => ?_)
        · exfalso; omega
        · skip
          have qc114 : p1 ≤ 7 := by omega
          replace c114 := hid c114
          refine go_toq PM26 (k := 2) (pc' := 31) (L' := [some (.inr (.inr (some 35))), some (.inl p1), some (.inl 1), some (.inl p1), none]) (st' := [.inl 4, .inr (.inr (some 35))]) (w' := (SH, dt)) rfl ?_
          refine go_callq PM26 PM24 (Q' := _) rfl rfl rfl rfl (sp_X1_oneOf_f L xs sio (d + 1) dt hI K V S t hz ht 4 ⟨by decide, by decide⟩ (by first | with_reducible assumption | exact unhid (by with_reducible assumption) | exact TKc_fr h_p0 hF (by decide) (by decide) (by decide) (by fail) | fail) (by first | with_reducible assumption | exact unhid (by with_reducible assumption) | exact TKc_fr h_p0 hF (by decide) (by decide) (by decide) (by fail) | fail) (by first | with_reducible assumption | exact unhid (by with_reducible assumption) | exact TKc_fr h_p0 hF (by decide) (by decide) (by decide) (by fail) | fail)) ?_
          rintro _ _ ⟨dt116, rfl, hI117, hF118, h115⟩
          refine ⟨rfl, ?_⟩
          have hF119 : Fr [35] dt dt116 := Fr_tr hF hF118 (by decide)
          rcases h115 with ⟨v_h115, rfl, h115r, h115⟩
          obtain ⟨h115_0, h115_1, h115_2, h115_3, h115_4, h115_5, h115_6, h115_7, h115_8⟩ := h115
          replace h115_2 := hid h115_2
          replace h115_4 := hid h115_4
          have ha1_ := SPX_at h115_0 (by (have z_ := unhid h_p2; omega)) (by omega) (fun _ z_ => gA_at z_)
          have hv1_ : dt116 35 2 = 0 → v_h115 = V (dt 35 8).toNat := h115_4
          replace hv1_ := hid hv1_
          have X120 : PX S t (gAc K V p1) (gA0 K V p1 (V (dt 35 8).toNat)) dt dt116 := PX_st PX_0 h115_0 (fun hl => by first | exact gAc_n (by omega) | (exfalso; fail))
          have r121 : -2147483648 ≤ am_shl v_h115 4 ∧ am_shl v_h115 4 ≤ 2147483647 := am_shl_R
          have r122 : -2147483648 ≤ am_or p1 (am_shl v_h115 4) ∧ am_or p1 (am_shl v_h115 4) ≤ 2147483647 := am_or_R
          refine go_ifq PM26 (k := 9) (p1 := 60) (p2 := 48) (L' := [some (.inr (.inr (some 35))), some (.inl p1), some (.inl 1), some (.inl (am_or p1 (am_shl v_h115 4))), some (.inl v_h115)]) (st' := []) (w' := (SH, dt116)) rfl (c_ne (a := p1) (b := 4) (by first | exact bnd h_p1 (by decide) (by decide) | exact ⟨by omega, by omega⟩) ⟨by decide, by decide⟩) (fun c123 => ?_) (fun c123 => ?_)
          · skip
            replace c123 := hid c123
            refine go_toq PM26 (k := 5) (pc' := 67) (L' := [some (.inr (.inr (some 35))), some (.inl p1), some (.inl 1), some (.inl (am_or p1 (am_shl v_h115 4))), some (.inl v_h115)]) (st' := [.inl 3, .inr (.inr (some 35)), .inl (am_or p1 (am_shl v_h115 4))]) (w' := (SH, dt116)) rfl ?_
            refine go_callq PM26 PM24 (Q' := _) rfl rfl rfl rfl (sp_X1_oneOf_f L xs sio (d + 1) dt116 hI117 K V S t hz ht 3 ⟨by decide, by decide⟩ (by first | with_reducible assumption | exact unhid (by with_reducible assumption) | exact TKc_fr h_p0 hF119 (by decide) (by decide) (by decide) (by omega) | fail) (by first | with_reducible assumption | exact unhid (by with_reducible assumption) | exact TKc_fr h_p0 hF119 (by decide) (by decide) (by decide) (by fail) | fail) (by first | with_reducible assumption | exact unhid (by with_reducible assumption) | exact TKc_fr h_p0 hF119 (by decide) (by decide) (by decide) (by fail) | fail)) ?_
            rintro _ _ ⟨dt125, rfl, hI126, hF127, h124⟩
            refine ⟨rfl, ?_⟩
            have hF128 : Fr [35] dt dt125 := Fr_tr hF119 hF127 (by decide)
            rcases h124 with ⟨v_h124, rfl, h124r, h124⟩
            obtain ⟨h124_0, h124_1, h124_2, h124_3, h124_4, h124_5, h124_6, h124_7, h124_8⟩ := h124
            replace h124_2 := hid h124_2
            replace h124_4 := hid h124_4
            have ha2_ := SPX_at h124_0 (by (have z_ := unhid h115_2; omega)) (by omega) (fun _ z_ => gA_at z_)
            have hv2_ : dt125 35 2 = 0 → v_h124 = V (dt116 35 8).toNat := h124_4
            replace hv2_ := hid hv2_
            have X129 : PX S t (gAc K V p1) (gA2 K V p1) dt dt125 := PX_st X120 h124_0 (fun hl => by first | ((repeat (first | rw [gA0_n (by (have z_ := unhid c123; omega))] | rw [gA1_n (by (have z_ := unhid c123; omega))] | rw [gA2_n (by (have z_ := unhid c123; omega))] | rw [gA3_n (by omega)])); exact gA1_p (by (have z_ := unhid c123; omega))) | (exfalso; (have z_ := unhid c123; omega)))
            have r130 : -2147483648 ≤ am_shl v_h124 8 ∧ am_shl v_h124 8 ≤ 2147483647 := am_shl_R
            have r131 : -2147483648 ≤ am_or (am_or p1 (am_shl v_h115 4)) (am_shl v_h124 8) ∧ am_or (am_or p1 (am_shl v_h115 4)) (am_shl v_h124 8) ≤ 2147483647 := am_or_R
            refine go_toq PM26 (k := 9) (pc' := 87) (L' := [some (.inr (.inr (some 35))), some (.inl p1), some (.inl 1), some (.inl (am_or (am_or p1 (am_shl v_h115 4)) (am_shl v_h124 8))), some (.inl v_h115)]) (st' := [.inl 4, .inr (.inr (some 35)), .inl (am_or (am_or p1 (am_shl v_h115 4)) (am_shl v_h124 8))]) (w' := (SH, dt125)) rfl ?_
            refine go_callq PM26 PM24 (Q' := _) rfl rfl rfl rfl (sp_X1_oneOf_f L xs sio (d + 1) dt125 hI126 K V S t hz ht 4 ⟨by decide, by decide⟩ (by first | with_reducible assumption | exact unhid (by with_reducible assumption) | exact TKc_fr h_p0 hF128 (by decide) (by decide) (by decide) (by omega) | fail) (by first | with_reducible assumption | exact unhid (by with_reducible assumption) | exact TKc_fr h_p0 hF128 (by decide) (by decide) (by decide) (by fail) | fail) (by first | with_reducible assumption | exact unhid (by with_reducible assumption) | exact TKc_fr h_p0 hF128 (by decide) (by decide) (by decide) (by fail) | fail)) ?_
            rintro _ _ ⟨dt133, rfl, hI134, hF135, h132⟩
            refine ⟨rfl, ?_⟩
            have hF136 : Fr [35] dt dt133 := Fr_tr hF128 hF135 (by decide)
            rcases h132 with ⟨v_h132, rfl, h132r, h132⟩
            obtain ⟨h132_0, h132_1, h132_2, h132_3, h132_4, h132_5, h132_6, h132_7, h132_8⟩ := h132
            replace h132_2 := hid h132_2
            replace h132_4 := hid h132_4
            have ha3_ := SPX_at h132_0 (by (have z_ := unhid h124_2; omega)) (by omega) (fun _ z_ => gA_at z_)
            have hv3_ : dt133 35 2 = 0 → v_h132 = V (dt125 35 8).toNat := h132_4
            replace hv3_ := hid hv3_
            have X137 : PX S t (gAc K V p1) (gA3 K V p1) dt dt133 := PX_st X129 h132_0 (fun hl => by first | ((repeat (first | rw [gA0_n (by fail)] | rw [gA1_n (by fail)] | rw [gA2_n (by (have z_ := unhid c123; omega))] | rw [gA3_n (by omega)])); exact gA2_p (by (have z_ := unhid c123; omega))) | (exfalso; (have z_ := unhid c123; omega)))
            have r138 : -2147483648 ≤ am_shl v_h132 10 ∧ am_shl v_h132 10 ≤ 2147483647 := am_shl_R
            have r139 : -2147483648 ≤ am_or (am_or (am_or p1 (am_shl v_h115 4)) (am_shl v_h124 8)) (am_shl v_h132 10) ∧ am_or (am_or (am_or p1 (am_shl v_h115 4)) (am_shl v_h124 8)) (am_shl v_h132 10) ≤ 2147483647 := am_or_R
            refine go_ifq PM26 (k := 6) (p1 := 112) (p2 := 101) (L' := [some (.inr (.inr (some 35))), some (.inl p1), some (.inl 1), some (.inl (am_or (am_or (am_or p1 (am_shl v_h115 4)) (am_shl v_h124 8)) (am_shl v_h132 10))), some (.inl v_h115)]) (st' := []) (w' := (SH, dt133)) rfl (c_ne (a := p1) (b := 6) (by first | exact bnd h_p1 (by decide) (by decide) | exact ⟨by omega, by omega⟩) ⟨by decide, by decide⟩) (fun c140 => ?_) (fun c140 => ?_)
            · skip
              replace c140 := hid c140
              refine go_ifq PM26 (k := 2) (p1 := 129) (p2 := 118) (L' := [some (.inr (.inr (some 35))), some (.inl p1), some (.inl 1), some (.inl (am_or (am_or (am_or p1 (am_shl v_h115 4)) (am_shl v_h124 8)) (am_shl v_h132 10))), some (.inl v_h115)]) (st' := []) (w' := (SH, dt133)) rfl (c_ne (a := p1) (b := 8) (by first | exact bnd h_p1 (by decide) (by decide) | exact ⟨by omega, by omega⟩) ⟨by decide, by decide⟩) (fun c141 => ?_) (fun c141 => ?_)
              · skip
                have qc141 : p1 ≤ 7 := by omega
                replace c141 := hid c141
                refine go_retq PM26 (k := 1) (r := some (.inl (am_or (am_or (am_or p1 (am_shl v_h115 4)) (am_shl v_h124 8)) (am_shl v_h132 10)))) (w1 := (SH, dt133)) rfl ?_
                exact ⟨dt133, rfl, hI134, hF136, ⟨_, rfl, (by first | exact bnd r139 (by decide) (by decide) | exact ⟨by fail, by fail⟩), ⟨by first | exact PX_e X137 (by fail) | exact PX_e (PX_g X137 (fun _ => by first | ((repeat (first | rw [gA0_n (by fail)] | rw [gA1_n (by fail)] | rw [gA2_n (by fail)] | rw [gA3_n (by omega)])); done) | (exfalso; fail))) (by omega), by first | exact True.intro | with_reducible assumption | exact unhid (by with_reducible assumption) | rfl | fail | trivial, by first | exact True.intro | with_reducible assumption | exact unhid (by with_reducible assumption) | rfl | fail | trivial, by first | exact True.intro | with_reducible assumption | exact unhid (by with_reducible assumption) | rfl | omega | trivial, by intro z_; first | exact AE_2 (by (have z_ := unhid c123; omega)) ⟨by omega, by omega⟩ ⟨by omega, by omega⟩ ⟨by omega, by omega⟩ (hv1_ (by omega)) (by have y_ := hv2_ (by omega); rw [y_]; congr 1; omega) (by have y_ := hv3_ (by omega); rw [y_]; congr 1; omega) rfl | (exfalso; fail), by first | exact True.intro | with_reducible assumption | exact unhid (by with_reducible assumption) | rfl | omega | trivial, by first | exact True.intro | with_reducible assumption | exact unhid (by with_reducible assumption) | rfl | omega | trivial, by first | exact True.intro | with_reducible assumption | exact unhid (by with_reducible assumption) | rfl | omega | trivial⟩⟩⟩
              · exfalso; omega
            · exfalso; omega
          · skip
            refine go_toq PM26 (k := 3) (pc' := 52) (L' := [some (.inr (.inr (some 35))), some (.inl p1), some (.inl 1), some (.inl (am_or p1 (am_shl v_h115 4))), some (.inl v_h115)]) (st' := [.inl v_h115, .inr (.inr (some 35)), .inl (am_or p1 (am_shl v_h115 4))]) (w' := (SH, dt116)) rfl ?_
            refine go_callq PM26 PM27 (Q' := _) rfl rfl rfl rfl (sp_X1_readOther_f L xs sio (d + 0) dt116 hI117 K V S t hz ht v_h115 (by first | exact bnd h115r (by decide) (by decide) | exact ⟨by fail, by fail⟩) (by first | with_reducible assumption | exact unhid (by with_reducible assumption) | exact TKc_fr h_p0 hF119 (by decide) (by decide) (by decide) (by omega) | fail) (by first | with_reducible assumption | exact unhid (by with_reducible assumption) | exact TKc_fr h_p0 hF119 (by decide) (by decide) (by decide) (by fail) | fail) (by first | with_reducible assumption | exact unhid (by with_reducible assumption) | exact TKc_fr h_p0 hF119 (by decide) (by decide) (by decide) (by fail) | fail)) ?_
            rintro _ _ ⟨dt143, rfl, hI144, hF145, h142⟩
            refine ⟨rfl, ?_⟩
            have hF146 : Fr [35] dt dt143 := Fr_tr hF119 hF145 (by decide)
            rcases h142 with ⟨v_h142, rfl, h142r, h142⟩
            obtain ⟨h142_0, h142_1, h142_2, h142_3, h142_4, h142_5, h142_6, h142_7, h142_8, h142_9⟩ := h142
            replace h142_2 := hid h142_2
            replace h142_5 := hid h142_5
            replace h142_6 := hid h142_6
            have ha2_ := SPX_at h142_0 (by (have z_ := unhid h115_2; omega)) (by omega) (fun _ z_ => gOt_at z_)
            have hv2_ : dt143 35 2 = 0 → v_h142 = V (dt116 35 8).toNat := h142_5
            replace hv2_ := hid hv2_
            have X147 : PX S t (gAc K V p1) (gA1 K V p1) dt dt143 := PX_st X120 h142_0 (fun hl => by first | (rw [gA0_p (by omega), h115_4 hl]) | (exfalso; fail))
            have r148 : -2147483648 ≤ am_shl v_h142 6 ∧ am_shl v_h142 6 ≤ 2147483647 := am_shl_R
            have r149 : -2147483648 ≤ am_or (am_or p1 (am_shl v_h115 4)) (am_shl v_h142 6) ∧ am_or (am_or p1 (am_shl v_h115 4)) (am_shl v_h142 6) ≤ 2147483647 := am_or_R
            refine go_toq PM26 (k := 9) (pc' := 67) (L' := [some (.inr (.inr (some 35))), some (.inl p1), some (.inl 1), some (.inl (am_or (am_or p1 (am_shl v_h115 4)) (am_shl v_h142 6))), some (.inl v_h115)]) (st' := [.inl 3, .inr (.inr (some 35)), .inl (am_or (am_or p1 (am_shl v_h115 4)) (am_shl v_h142 6))]) (w' := (SH, dt143)) rfl ?_
            refine go_callq PM26 PM24 (Q' := _) rfl rfl rfl rfl (sp_X1_oneOf_f L xs sio (d + 1) dt143 hI144 K V S t hz ht 3 ⟨by decide, by decide⟩ (by first | with_reducible assumption | exact unhid (by with_reducible assumption) | exact TKc_fr h_p0 hF146 (by decide) (by decide) (by decide) (by omega) | fail) (by first | with_reducible assumption | exact unhid (by with_reducible assumption) | exact TKc_fr h_p0 hF146 (by decide) (by decide) (by decide) (by fail) | fail) (by first | with_reducible assumption | exact unhid (by with_reducible assumption) | exact TKc_fr h_p0 hF146 (by decide) (by decide) (by decide) (by fail) | fail)) ?_
            rintro _ _ ⟨dt151, rfl, hI152, hF153, h150⟩
            refine ⟨rfl, ?_⟩
            have hF154 : Fr [35] dt dt151 := Fr_tr hF146 hF153 (by decide)
            rcases h150 with ⟨v_h150, rfl, h150r, h150⟩
            obtain ⟨h150_0, h150_1, h150_2, h150_3, h150_4, h150_5, h150_6, h150_7, h150_8⟩ := h150
            replace h150_2 := hid h150_2
            replace h150_4 := hid h150_4
            have ha3_ := SPX_at h150_0 (by (have z_ := unhid h142_2; omega)) (by omega) (fun _ z_ => gA_at z_)
            have hv3_ : dt151 35 2 = 0 → v_h150 = V (dt143 35 8).toNat := h150_4
            replace hv3_ := hid hv3_
            have X155 : PX S t (gAc K V p1) (gA2 K V p1) dt dt151 := PX_st X147 h150_0 (fun hl => by first | ((repeat (first | rw [gA0_n (by fail)] | rw [gA1_n (by fail)] | rw [gA2_n (by fail)] | rw [gA3_n (by fail)])); exact gA1_p (by omega)) | (exfalso; fail))
            have r156 : -2147483648 ≤ am_shl v_h150 8 ∧ am_shl v_h150 8 ≤ 2147483647 := am_shl_R
            have r157 : -2147483648 ≤ am_or (am_or (am_or p1 (am_shl v_h115 4)) (am_shl v_h142 6)) (am_shl v_h150 8) ∧ am_or (am_or (am_or p1 (am_shl v_h115 4)) (am_shl v_h142 6)) (am_shl v_h150 8) ≤ 2147483647 := am_or_R
            refine go_toq PM26 (k := 9) (pc' := 87) (L' := [some (.inr (.inr (some 35))), some (.inl p1), some (.inl 1), some (.inl (am_or (am_or (am_or p1 (am_shl v_h115 4)) (am_shl v_h142 6)) (am_shl v_h150 8))), some (.inl v_h115)]) (st' := [.inl 4, .inr (.inr (some 35)), .inl (am_or (am_or (am_or p1 (am_shl v_h115 4)) (am_shl v_h142 6)) (am_shl v_h150 8))]) (w' := (SH, dt151)) rfl ?_
            refine go_callq PM26 PM24 (Q' := _) rfl rfl rfl rfl (sp_X1_oneOf_f L xs sio (d + 1) dt151 hI152 K V S t hz ht 4 ⟨by decide, by decide⟩ (by first | with_reducible assumption | exact unhid (by with_reducible assumption) | exact TKc_fr h_p0 hF154 (by decide) (by decide) (by decide) (by omega) | fail) (by first | with_reducible assumption | exact unhid (by with_reducible assumption) | exact TKc_fr h_p0 hF154 (by decide) (by decide) (by decide) (by fail) | fail) (by first | with_reducible assumption | exact unhid (by with_reducible assumption) | exact TKc_fr h_p0 hF154 (by decide) (by decide) (by decide) (by fail) | fail)) ?_
            rintro _ _ ⟨dt159, rfl, hI160, hF161, h158⟩
            refine ⟨rfl, ?_⟩
            have hF162 : Fr [35] dt dt159 := Fr_tr hF154 hF161 (by decide)
            rcases h158 with ⟨v_h158, rfl, h158r, h158⟩
            obtain ⟨h158_0, h158_1, h158_2, h158_3, h158_4, h158_5, h158_6, h158_7, h158_8⟩ := h158
            replace h158_2 := hid h158_2
            replace h158_4 := hid h158_4
            have ha4_ := SPX_at h158_0 (by (have z_ := unhid h150_2; omega)) (by omega) (fun _ z_ => gA_at z_)
            have hv4_ : dt159 35 2 = 0 → v_h158 = V (dt151 35 8).toNat := h158_4
            replace hv4_ := hid hv4_
            have X163 : PX S t (gAc K V p1) (gA3 K V p1) dt dt159 := PX_st X155 h158_0 (fun hl => by first | ((repeat (first | rw [gA0_n (by fail)] | rw [gA1_n (by fail)] | rw [gA2_n (by fail)] | rw [gA3_n (by fail)])); exact gA2_p (by omega)) | (exfalso; fail))
            have r164 : -2147483648 ≤ am_shl v_h158 10 ∧ am_shl v_h158 10 ≤ 2147483647 := am_shl_R
            have r165 : -2147483648 ≤ am_or (am_or (am_or (am_or p1 (am_shl v_h115 4)) (am_shl v_h142 6)) (am_shl v_h150 8)) (am_shl v_h158 10) ∧ am_or (am_or (am_or (am_or p1 (am_shl v_h115 4)) (am_shl v_h142 6)) (am_shl v_h150 8)) (am_shl v_h158 10) ≤ 2147483647 := am_or_R
            refine go_ifq PM26 (k := 6) (p1 := 112) (p2 := 101) (L' := [some (.inr (.inr (some 35))), some (.inl p1), some (.inl 1), some (.inl (am_or (am_or (am_or (am_or p1 (am_shl v_h115 4)) (am_shl v_h142 6)) (am_shl v_h150 8)) (am_shl v_h158 10))), some (.inl v_h115)]) (st' := []) (w' := (SH, dt159)) rfl (c_ne (a := p1) (b := 6) (by first | exact bnd h_p1 (by decide) (by decide) | exact ⟨by omega, by omega⟩) ⟨by decide, by decide⟩) (fun c166 => ?_) (fun c166 => ?_)
            · skip
              replace c166 := hid c166
              refine go_ifq PM26 (k := 2) (p1 := 129) (p2 := 118) (L' := [some (.inr (.inr (some 35))), some (.inl p1), some (.inl 1), some (.inl (am_or (am_or (am_or (am_or p1 (am_shl v_h115 4)) (am_shl v_h142 6)) (am_shl v_h150 8)) (am_shl v_h158 10))), some (.inl v_h115)]) (st' := []) (w' := (SH, dt159)) rfl (c_ne (a := p1) (b := 8) (by first | exact bnd h_p1 (by decide) (by decide) | exact ⟨by omega, by omega⟩) ⟨by decide, by decide⟩) (fun c167 => ?_) (fun c167 => ?_)
              · skip
                have qc167 : p1 ≤ 7 := by omega
                replace c167 := hid c167
                refine go_retq PM26 (k := 1) (r := some (.inl (am_or (am_or (am_or (am_or p1 (am_shl v_h115 4)) (am_shl v_h142 6)) (am_shl v_h150 8)) (am_shl v_h158 10)))) (w1 := (SH, dt159)) rfl ?_
                exact ⟨dt159, rfl, hI160, hF162, ⟨_, rfl, (by first | exact bnd r165 (by decide) (by decide) | exact ⟨by fail, by fail⟩), ⟨by first | exact PX_e X163 (by fail) | exact PX_e (PX_g X163 (fun _ => by first | ((repeat (first | rw [gA0_n (by fail)] | rw [gA1_n (by fail)] | rw [gA2_n (by fail)] | rw [gA3_n (by omega)])); done) | (exfalso; fail))) (by omega), by first | exact True.intro | with_reducible assumption | exact unhid (by with_reducible assumption) | rfl | fail | trivial, by first | exact True.intro | with_reducible assumption | exact unhid (by with_reducible assumption) | rfl | fail | trivial, by first | exact True.intro | with_reducible assumption | exact unhid (by with_reducible assumption) | rfl | omega | trivial, by intro z_; first | exact AE_4 (by omega) ⟨by omega, by omega⟩ ⟨by omega, by omega⟩ ⟨by omega, by omega⟩ ⟨by omega, by omega⟩ (by (have z_ := unhid h142_6; omega)) (hv1_ (by omega)) (by have y_ := hv2_ (by omega); rw [y_]; congr 1; omega) (by have y_ := hv3_ (by omega); rw [y_]; congr 1; omega) (by have y_ := hv4_ (by omega); rw [y_]; congr 1; omega) rfl | (exfalso; fail), by first | exact True.intro | with_reducible assumption | exact unhid (by with_reducible assumption) | rfl | omega | trivial, by first | exact True.intro | with_reducible assumption | exact unhid (by with_reducible assumption) | rfl | omega | trivial, by first | exact True.intro | with_reducible assumption | exact unhid (by with_reducible assumption) | rfl | omega | trivial⟩⟩⟩
              · exfalso; omega
            · exfalso; omega
set_option maxHeartbeats 8000000 in
theorem sp_X1_unit_f (L : Nat) (xs : Nat → Int32) (sio : Option Nat) (d : Nat) (dt : Nat → Nat → Int) (hI : InvC dt) (K V S : Nat → Int) (t : Nat) (hz : KZ K t) (ht : t ≤ 500)  (h_p0 : TKc K V S t dt) (h_p1 : 0 ≤ dt 35 8 ∧ dt 35 8 ≤ (t : Int)) (h_p2 : ¬ dt 35 2 = 0 → dt 35 8 = (t : Int)) (h_p3 : dt 35 2 = 0 → dt 35 12 ≤ dt 35 8) : GO (am_XX L xs sio) (d + 1) 35 0 [some (.inr (.inr (some 35))), none, none] [] (SH, dt) (fun r w2 => ∃ dt2 : Nat → Nat → Int, w2 = (SH, dt2) ∧ InvC dt2 ∧ Fr [35, 42] dt dt2 ∧ ((r = none ∧ (SPX S t dt dt2 (gU K)) ∧ (0 ≤ dt2 35 8 ∧ dt2 35 8 ≤ (t : Int)) ∧ (¬ dt2 35 2 = 0 → dt2 35 8 = (t : Int)) ∧ (dt 35 8 ≤ dt2 35 8) ∧ (dt2 35 2 = 0 → CDX dt dt2 ((eU K V) (dt 35 8).toNat)) ∧ (dt2 35 2 = 0 → dt2 35 12 + dt 35 8 ≤ dt2 35 8 + dt 35 12) ∧ (dt2 35 1 = dt 35 1) ∧ (dt2 35 7 = dt 35 7)))) := by
  replace h_p2 := hid h_p2
  replace h_p3 := hid h_p3
  have hF : Fr [35, 42] dt dt := Fr_refl
  have r1 : 0 ≤ dt 35 12 ∧ dt 35 12 ≤ 500 := InvC_get hI 35 12 rfl rfl
  have r2 : (-2147483648) ≤ dt 35 2 ∧ dt 35 2 ≤ 2147483647 := InvC_get hI 35 2 rfl rfl
  have h7 : dt 35 7 = (t : Int) + 1 := h_p0.1
  have hk0 := TKc_k h_p0 h_p1
  have hv0 := hid (TKc_v h_p0 h_p1)
  have hs0 := TKc_s h_p0 h_p1
  have lt0_ := KZ_lt (i := (dt 35 8).toNat) hz
  refine go_toq PM35 (k := 1) (pc' := 1) (L' := [some (.inr (.inr (some 35))), none, none]) (st' := [.inr (.inr (some 35))]) (w' := (SH, dt)) rfl ?_
  refine go_callq PM35 PM23 (Q' := _) rfl rfl rfl rfl (sp_X1_nextNumber_f L xs sio (d + 0) dt hI K V S t hz ht  (by first | with_reducible assumption | exact unhid (by with_reducible assumption) | exact TKc_fr h_p0 hF (by decide) (by decide) (by decide) (by fail) | fail) (by first | with_reducible assumption | exact unhid (by with_reducible assumption) | exact TKc_fr h_p0 hF (by decide) (by decide) (by decide) (by fail) | fail) (by first | with_reducible assumption | exact unhid (by with_reducible assumption) | exact TKc_fr h_p0 hF (by decide) (by decide) (by decide) (by fail) | fail)) ?_
  rintro _ _ ⟨rfl, h3⟩
  refine ⟨rfl, ?_⟩
  rcases h3 with ⟨v_h3, rfl, h3r, h3⟩ | ⟨rfl, h3⟩
  · skip
    obtain ⟨h3_0, h3_1⟩ := h3
    refine go_toq PM35 (k := 2) (pc' := 6) (L' := [some (.inr (.inr (some 35))), some (.inl v_h3), none]) (st' := [.inr (.inr (some 35))]) (w' := (SH, dt)) rfl ?_
    refine go_callq PM35 PM20 (Q' := _) rfl rfl rfl rfl (sp_X1_token_f L xs sio (d + 0) dt hI K V S t hz ht  (by first | with_reducible assumption | exact unhid (by with_reducible assumption) | exact TKc_fr h_p0 hF (by decide) (by decide) (by decide) (by fail) | fail) (by first | with_reducible assumption | exact unhid (by with_reducible assumption) | exact TKc_fr h_p0 hF (by decide) (by decide) (by decide) (by fail) | fail) (by first | with_reducible assumption | exact unhid (by with_reducible assumption) | exact TKc_fr h_p0 hF (by decide) (by decide) (by decide) (by fail) | fail)) ?_
    rintro _ _ ⟨rfl, h5⟩
    refine ⟨rfl, ?_⟩
    rcases h5 with ⟨v_h5, rfl, h5r, h5⟩
    refine go_ifq PM35 (k := 5) (p1 := 37) (p2 := 19) (L' := [some (.inr (.inr (some 35))), some (.inl v_h3), some (.inl (v_h5 - 1006))]) (st' := []) (w' := (SH, dt)) rfl (c_eq (a := v_h3) (b := (-1)) (by first | exact bnd h3r (by decide) (by decide) | exact ⟨by fail, by fail⟩) ⟨by decide, by decide⟩) (fun c7 => ?_) (fun c7 => ?_)
    · exfalso; omega
    · skip
      replace c7 := hid c7
      refine go_toq PM35 (k := 2) (pc' := 21) (L' := [some (.inr (.inr (some 35))), some (.inl v_h3), some (.inl (v_h5 - 1006))]) (st' := [.inl v_h3, .inr (.inr (some 35))]) (w' := (SH, dt)) rfl ?_
      refine go_callq PM35 PM30 (Q' := _) rfl rfl rfl rfl (sp_X1_emit_f L xs sio (d + 0) dt hI  v_h3 (by first | exact bnd h3r (by decide) (by decide) | exact ⟨by fail, by fail⟩) ) ?_
      rintro _ _ ⟨dt9, rfl, hI10, hF11, h8⟩
      refine ⟨rfl, ?_⟩
      have hF12 : Fr [35, 42] dt dt9 := Fr_tr hF hF11 (by decide)
      rcases h8 with ⟨rfl, h8⟩
      obtain ⟨h8_0, h8_1, h8_2, h8_3, h8_4, h8_5, h8_6⟩ := h8
      replace h8_0 := hid h8_0
      replace h8_1 := hid h8_1
      have X13 : PX S t (gU K) (gU K) dt dt9 := PX_sm PX_0 (by omega) (by omega) (by omega)
      have ek14 : (dt9 35 8).toNat = (dt 35 8).toNat := by omega
      have kk15 : K (dt9 35 8).toNat = K (dt 35 8).toNat := congrArg K ek14
      have kk16 : V (dt9 35 8).toNat = V (dt 35 8).toNat := congrArg V ek14
      have Q17 : QX (eU K V) eNl dt dt9 := QX_st QX_0 (fun z_ => by omega) (by omega) (fun z_ => h8_0 (by (have z_ := unhid h_p3; omega))) (fun z_ => by (try rw [show (dt9 35 8).toNat = (dt 35 8).toNat by first | with_reducible assumption | exact unhid (by with_reducible assumption) | fail]); first | done | (show eU K V (dt 35 8).toNat = [v_h3] ++ []; unfold eU; rw [if_pos (by omega), show v_h3 = V (dt 35 8).toNat by first | with_reducible assumption | exact unhid (by with_reducible assumption) | fail]; rfl))
      have ql18 := hid (fun (z_ : dt9 35 2 = 0) => (Q17 z_).1)
      refine go_toq PM35 (k := 5) (pc' := 31) (L' := [some (.inr (.inr (some 35))), some (.inl v_h3), some (.inl (v_h5 - 1006))]) (st' := [.inl ((dt9 35 8) + 1), .inr (.inr (some 35))]) (w' := (SH, dt9)) rfl ?_
      have hI19 : InvC (u2 dt9 35 8 ((dt9 35 8) + 1)) := InvC_u2 hI10 (lo := -2147483648) (hi := 2147483647) rfl rfl rfl (by omega) (by omega)
      have hF20 : Fr [35, 42] dt (u2 dt9 35 8 ((dt9 35 8) + 1)) := Fr_u2 hF12 (by decide)
      have w21 : (u2 dt9 35 8 ((dt9 35 8) + 1)) 35 1 = dt9 35 1 := rfl
      have w22 : (u2 dt9 35 8 ((dt9 35 8) + 1)) 35 2 = dt9 35 2 := rfl
      have w23 : (u2 dt9 35 8 ((dt9 35 8) + 1)) 35 3 = dt9 35 3 := rfl
      have w24 : (u2 dt9 35 8 ((dt9 35 8) + 1)) 35 7 = dt9 35 7 := rfl
      have w25 : (u2 dt9 35 8 ((dt9 35 8) + 1)) 35 8 = (dt9 35 8) + 1 := rfl
      have w26 : (u2 dt9 35 8 ((dt9 35 8) + 1)) 35 12 = dt9 35 12 := rfl
      have Q27 : QX (eU K V) eNl dt (u2 dt9 35 8 ((dt9 35 8) + 1)) := QX_st Q17 (fun z_ => z_) (by omega) (fun _ => CDX_sm rfl (fun j => u2_ne (by omega))) (fun z_ => by (try rw [show ((u2 dt9 35 8 ((dt9 35 8) + 1)) 35 8).toNat = (dt9 35 8).toNat + 1 by first | with_reducible assumption | exact unhid (by with_reducible assumption) | omega]); first | done | (rfl))
      have ql28 := hid (fun (z_ : (u2 dt9 35 8 ((dt9 35 8) + 1)) 35 2 = 0) => (Q27 z_).1)
      have u102_ := hid (And.intro (unhid h_p2) (And.intro (unhid h_p3) (And.intro (unhid hv0) (And.intro (unhid c7) (And.intro (unhid h8_1) (And.intro (unhid ql18) (unhid ql28)))))))
      have lv30 := KLIVE hz (D := dt9) (by omega) (by omega) (by (have z_ := unhid h_p2; omega))
      have X29 : PX S t (gU K) gOk dt (u2 dt9 35 8 ((dt9 35 8) + 1)) := PX_st X13 (SPX_inc hz (by omega) (by omega) (by omega) (by omega) (by omega)) (fun hl => by first | (show (gU K) (dt9 35 8).toNat = gOk ((dt9 35 8).toNat + 1); unfold gU; rw [if_pos (by omega)]; rfl) | (exfalso; fail))
      refine go_smpq PM35 (L' := [some (.inr (.inr (some 35))), some (.inl v_h3), some (.inl (v_h5 - 1006))]) (st' := []) (w' := (SH, (u2 dt9 35 8 ((dt9 35 8) + 1)))) rfl rfl (s_pf rfl rfl rfl rfl ⟨by omega, by omega⟩) ?_
      refine go_retq PM35 (k := 1) (r := none) (w1 := (SH, (u2 dt9 35 8 ((dt9 35 8) + 1)))) rfl ?_
      exact ⟨(u2 dt9 35 8 ((dt9 35 8) + 1)), rfl, hI19, hF20, ⟨rfl, ⟨by exact PX_e X29 (by omega), by first | exact True.intro | with_reducible assumption | exact unhid (by with_reducible assumption) | rfl | omega | trivial, by first | exact True.intro | with_reducible assumption | exact unhid (by with_reducible assumption) | rfl | omega | trivial, by first | exact True.intro | with_reducible assumption | exact unhid (by with_reducible assumption) | rfl | omega | trivial, by first | (intro z_; exfalso; fail) | exact QX_e Q27, by first | exact True.intro | with_reducible assumption | exact unhid (by with_reducible assumption) | rfl | (have z_ := unhid u102_; omega) | trivial, by first | exact True.intro | with_reducible assumption | exact unhid (by with_reducible assumption) | rfl | omega | trivial, by first | exact True.intro | with_reducible assumption | exact unhid (by with_reducible assumption) | rfl | omega | trivial⟩⟩⟩
  · skip
    refine go_toq PM35 (k := 2) (pc' := 6) (L' := [some (.inr (.inr (some 35))), some (.inl (-1)), none]) (st' := [.inr (.inr (some 35))]) (w' := (SH, dt)) rfl ?_
    refine go_callq PM35 PM20 (Q' := _) rfl rfl rfl rfl (sp_X1_token_f L xs sio (d + 0) dt hI K V S t hz ht  (by first | with_reducible assumption | exact unhid (by with_reducible assumption) | exact TKc_fr h_p0 hF (by decide) (by decide) (by decide) (by fail) | fail) (by first | with_reducible assumption | exact unhid (by with_reducible assumption) | exact TKc_fr h_p0 hF (by decide) (by decide) (by decide) (by fail) | fail) (by first | with_reducible assumption | exact unhid (by with_reducible assumption) | exact TKc_fr h_p0 hF (by decide) (by decide) (by decide) (by fail) | fail)) ?_
    rintro _ _ ⟨rfl, h32⟩
    refine ⟨rfl, ?_⟩
    rcases h32 with ⟨v_h32, rfl, h32r, h32⟩
    refine go_ifq PM35 (k := 7) (p1 := 68) (p2 := 41) (L' := [some (.inr (.inr (some 35))), some (.inl (-1)), some (.inl (v_h32 - 1006))]) (st' := []) (w' := (SH, dt)) rfl (z_lt (a := v_h32 - 1006) ⟨by omega, by omega⟩) (fun c34 => ?_) (fun c34 => ?_)
    · skip
      refine go_toq PM35 (k := 2) (pc' := 70) (L' := [some (.inr (.inr (some 35))), some (.inl (-1)), some (.inl (v_h32 - 1006))]) (st' := [.inl 1, .inr (.inr (some 35))]) (w' := (SH, dt)) rfl ?_
      refine go_callq PM35 PM21 (Q' := _) rfl rfl rfl rfl (sp_X1_fail_f L xs sio (d + 0) dt hI K V S t hz ht 1 ⟨by decide, by decide⟩ (by first | with_reducible assumption | exact unhid (by with_reducible assumption) | exact TKc_fr h_p0 hF (by decide) (by decide) (by decide) (by fail) | fail) (by first | with_reducible assumption | exact unhid (by with_reducible assumption) | exact TKc_fr h_p0 hF (by decide) (by decide) (by decide) (by fail) | fail) (by first | with_reducible assumption | exact unhid (by with_reducible assumption) | exact TKc_fr h_p0 hF (by decide) (by decide) (by decide) (by fail) | fail)) ?_
      rintro _ _ ⟨dt36, rfl, hI37, hF38, h35⟩
      refine ⟨rfl, ?_⟩
      have hF39 : Fr [35, 42] dt dt36 := Fr_tr hF hF38 (by decide)
      rcases h35 with ⟨rfl, h35⟩
      obtain ⟨h35_0, h35_1, h35_2, h35_3, h35_4, h35_5⟩ := h35
      replace h35_2 := hid h35_2
      have X40 : PX S t (gU K) gOk dt dt36 := PX_st PX_0 h35_0 (fun hl => by first | exact (by unfold gU; rw [if_neg (by omega)] : _ = ((1 : Int), (dt 35 8).toNat)).trans (gB_no (by show ¬ ((1 : Int) = 0); omega)).symm | (exfalso; fail))
      have Q41 : QX (eU K V) eNl dt dt36 := QX_no (by (have z_ := unhid h35_2; omega))
      have ql42 := hid (fun (z_ : dt36 35 2 = 0) => (Q41 z_).1)
      refine go_retq PM35 (k := 0) (r := none) (w1 := (SH, dt36)) rfl ?_
      exact ⟨dt36, rfl, hI37, hF39, ⟨rfl, ⟨by exact PX_e X40 (by omega), by first | exact True.intro | with_reducible assumption | exact unhid (by with_reducible assumption) | rfl | omega | trivial, by first | exact True.intro | with_reducible assumption | exact unhid (by with_reducible assumption) | rfl | omega | trivial, by first | exact True.intro | with_reducible assumption | exact unhid (by with_reducible assumption) | rfl | omega | trivial, by first | (intro z_; exfalso; (have z_ := unhid h35_2; omega)) | exact QX_e Q41, by first | exact True.intro | with_reducible assumption | exact unhid (by with_reducible assumption) | rfl | omega | trivial, by first | exact True.intro | with_reducible assumption | exact unhid (by with_reducible assumption) | rfl | fail | trivial, by first | exact True.intro | with_reducible assumption | exact unhid (by with_reducible assumption) | rfl | fail | trivial⟩⟩⟩
    · skip
      refine go_ifq PM35 (k := 2) (p1 := 68) (p2 := 47) (L' := [some (.inr (.inr (some 35))), some (.inl (-1)), some (.inl (v_h32 - 1006))]) (st' := []) (w' := (SH, dt)) rfl (c_ge (a := v_h32 - 1006) (b := 6) ⟨by omega, by omega⟩ ⟨by decide, by decide⟩) (fun c43 => ?_) (fun c43 => ?_)
      · skip
        refine go_toq PM35 (k := 2) (pc' := 70) (L' := [some (.inr (.inr (some 35))), some (.inl (-1)), some (.inl (v_h32 - 1006))]) (st' := [.inl 1, .inr (.inr (some 35))]) (w' := (SH, dt)) rfl ?_
        refine go_callq PM35 PM21 (Q' := _) rfl rfl rfl rfl (sp_X1_fail_f L xs sio (d + 0) dt hI K V S t hz ht 1 ⟨by decide, by decide⟩ (by first | with_reducible assumption | exact unhid (by with_reducible assumption) | exact TKc_fr h_p0 hF (by decide) (by decide) (by decide) (by fail) | fail) (by first | with_reducible assumption | exact unhid (by with_reducible assumption) | exact TKc_fr h_p0 hF (by decide) (by decide) (by decide) (by fail) | fail) (by first | with_reducible assumption | exact unhid (by with_reducible assumption) | exact TKc_fr h_p0 hF (by decide) (by decide) (by decide) (by fail) | fail)) ?_
        rintro _ _ ⟨dt45, rfl, hI46, hF47, h44⟩
        refine ⟨rfl, ?_⟩
        have hF48 : Fr [35, 42] dt dt45 := Fr_tr hF hF47 (by decide)
        rcases h44 with ⟨rfl, h44⟩
        obtain ⟨h44_0, h44_1, h44_2, h44_3, h44_4, h44_5⟩ := h44
        replace h44_2 := hid h44_2
        have X49 : PX S t (gU K) gOk dt dt45 := PX_st PX_0 h44_0 (fun hl => by first | exact (by unfold gU; rw [if_neg (by omega)] : _ = ((1 : Int), (dt 35 8).toNat)).trans (gB_no (by show ¬ ((1 : Int) = 0); omega)).symm | (exfalso; fail))
        have Q50 : QX (eU K V) eNl dt dt45 := QX_no (by (have z_ := unhid h44_2; omega))
        have ql51 := hid (fun (z_ : dt45 35 2 = 0) => (Q50 z_).1)
        refine go_retq PM35 (k := 0) (r := none) (w1 := (SH, dt45)) rfl ?_
        exact ⟨dt45, rfl, hI46, hF48, ⟨rfl, ⟨by exact PX_e X49 (by omega), by first | exact True.intro | with_reducible assumption | exact unhid (by with_reducible assumption) | rfl | omega | trivial, by first | exact True.intro | with_reducible assumption | exact unhid (by with_reducible assumption) | rfl | omega | trivial, by first | exact True.intro | with_reducible assumption | exact unhid (by with_reducible assumption) | rfl | omega | trivial, by first | (intro z_; exfalso; (have z_ := unhid h44_2; omega)) | exact QX_e Q50, by first | exact True.intro | with_reducible assumption | exact unhid (by with_reducible assumption) | rfl | omega | trivial, by first | exact True.intro | with_reducible assumption | exact unhid (by with_reducible assumption) | rfl | fail | trivial, by first | exact True.intro | with_reducible assumption | exact unhid (by with_reducible assumption) | rfl | fail | trivial⟩⟩⟩
      · skip
        refine go_toq PM35 (k := 4) (pc' := 52) (L' := [some (.inr (.inr (some 35))), some (.inl (-1)), some (.inl (v_h32 - 1006))]) (st' := [.inl ((-11) - (v_h32 - 1006)), .inr (.inr (some 35))]) (w' := (SH, dt)) rfl ?_
        refine go_callq PM35 PM30 (Q' := _) rfl rfl rfl rfl (sp_X1_emit_f L xs sio (d + 0) dt hI  ((-11) - (v_h32 - 1006)) ⟨by omega, by omega⟩ ) ?_
        rintro _ _ ⟨dt53, rfl, hI54, hF55, h52⟩
        refine ⟨rfl, ?_⟩
        have hF56 : Fr [35, 42] dt dt53 := Fr_tr hF hF55 (by decide)
        rcases h52 with ⟨rfl, h52⟩
        obtain ⟨h52_0, h52_1, h52_2, h52_3, h52_4, h52_5, h52_6⟩ := h52
        replace h52_0 := hid h52_0
        replace h52_1 := hid h52_1
        have X57 : PX S t (gU K) (gU K) dt dt53 := PX_sm PX_0 (by omega) (by omega) (by omega)
        have ek58 : (dt53 35 8).toNat = (dt 35 8).toNat := by omega
        have kk59 : K (dt53 35 8).toNat = K (dt 35 8).toNat := congrArg K ek58
        have kk60 : V (dt53 35 8).toNat = V (dt 35 8).toNat := congrArg V ek58
        have Q61 : QX (eU K V) eNl dt dt53 := QX_st QX_0 (fun z_ => by omega) (by omega) (fun z_ => h52_0 (by (have z_ := unhid h_p3; omega))) (fun z_ => by (try rw [show (dt53 35 8).toNat = (dt 35 8).toNat by first | with_reducible assumption | exact unhid (by with_reducible assumption) | fail]); first | done | (show eU K V (dt 35 8).toNat = [((-11) - (v_h32 - 1006))] ++ []; unfold eU; rw [if_neg (by omega), show 995 - K (dt 35 8).toNat = ((-11) - (v_h32 - 1006)) by first | with_reducible assumption | exact unhid (by with_reducible assumption) | omega]; rfl))
        have ql62 := hid (fun (z_ : dt53 35 2 = 0) => (Q61 z_).1)
        refine go_toq PM35 (k := 5) (pc' := 62) (L' := [some (.inr (.inr (some 35))), some (.inl (-1)), some (.inl (v_h32 - 1006))]) (st' := [.inl ((dt53 35 8) + 1), .inr (.inr (some 35))]) (w' := (SH, dt53)) rfl ?_
        have hI63 : InvC (u2 dt53 35 8 ((dt53 35 8) + 1)) := InvC_u2 hI54 (lo := -2147483648) (hi := 2147483647) rfl rfl rfl (by omega) (by omega)
        have hF64 : Fr [35, 42] dt (u2 dt53 35 8 ((dt53 35 8) + 1)) := Fr_u2 hF56 (by decide)
        have w65 : (u2 dt53 35 8 ((dt53 35 8) + 1)) 35 1 = dt53 35 1 := rfl
        have w66 : (u2 dt53 35 8 ((dt53 35 8) + 1)) 35 2 = dt53 35 2 := rfl
        have w67 : (u2 dt53 35 8 ((dt53 35 8) + 1)) 35 3 = dt53 35 3 := rfl
        have w68 : (u2 dt53 35 8 ((dt53 35 8) + 1)) 35 7 = dt53 35 7 := rfl
        have w69 : (u2 dt53 35 8 ((dt53 35 8) + 1)) 35 8 = (dt53 35 8) + 1 := rfl
        have w70 : (u2 dt53 35 8 ((dt53 35 8) + 1)) 35 12 = dt53 35 12 := rfl
        have Q71 : QX (eU K V) eNl dt (u2 dt53 35 8 ((dt53 35 8) + 1)) := QX_st Q61 (fun z_ => z_) (by omega) (fun _ => CDX_sm rfl (fun j => u2_ne (by omega))) (fun z_ => by (try rw [show ((u2 dt53 35 8 ((dt53 35 8) + 1)) 35 8).toNat = (dt53 35 8).toNat + 1 by first | with_reducible assumption | exact unhid (by with_reducible assumption) | omega]); first | done | (rfl))
        have ql72 := hid (fun (z_ : (u2 dt53 35 8 ((dt53 35 8) + 1)) 35 2 = 0) => (Q71 z_).1)
        have u109_ := hid (And.intro (unhid h_p2) (And.intro (unhid h_p3) (And.intro (unhid hv0) (And.intro (unhid h52_1) (And.intro (unhid ql62) (unhid ql72))))))
        have lv74 := KLIVE hz (D := dt53) (by omega) (by omega) (by (have z_ := unhid h_p2; omega))
        have X73 : PX S t (gU K) gOk dt (u2 dt53 35 8 ((dt53 35 8) + 1)) := PX_st X57 (SPX_inc hz (by omega) (by omega) (by omega) (by omega) (by omega)) (fun hl => by first | (show (gU K) (dt53 35 8).toNat = gOk ((dt53 35 8).toNat + 1); unfold gU; rw [if_pos (by omega)]; rfl) | (exfalso; fail))
        refine go_smpq PM35 (L' := [some (.inr (.inr (some 35))), some (.inl (-1)), some (.inl (v_h32 - 1006))]) (st' := []) (w' := (SH, (u2 dt53 35 8 ((dt53 35 8) + 1)))) rfl rfl (s_pf rfl rfl rfl rfl ⟨by omega, by omega⟩) ?_
        refine go_retq PM35 (k := 1) (r := none) (w1 := (SH, (u2 dt53 35 8 ((dt53 35 8) + 1)))) rfl ?_
        exact ⟨(u2 dt53 35 8 ((dt53 35 8) + 1)), rfl, hI63, hF64, ⟨rfl, ⟨by exact PX_e X73 (by omega), by first | exact True.intro | with_reducible assumption | exact unhid (by with_reducible assumption) | rfl | omega | trivial, by first | exact True.intro | with_reducible assumption | exact unhid (by with_reducible assumption) | rfl | omega | trivial, by first | exact True.intro | with_reducible assumption | exact unhid (by with_reducible assumption) | rfl | omega | trivial, by first | (intro z_; exfalso; fail) | exact QX_e Q71, by first | exact True.intro | with_reducible assumption | exact unhid (by with_reducible assumption) | rfl | (have z_ := unhid u109_; omega) | trivial, by first | exact True.intro | with_reducible assumption | exact unhid (by with_reducible assumption) | rfl | omega | trivial, by first | exact True.intro | with_reducible assumption | exact unhid (by with_reducible assumption) | rfl | omega | trivial⟩⟩⟩
set_option maxHeartbeats 8000000 in
theorem sp_X1_part_f (L : Nat) (xs : Nat → Int32) (sio : Option Nat) (d : Nat) (dt : Nat → Nat → Int) (hI : InvC dt) (K V S : Nat → Int) (t : Nat) (hz : KZ K t) (ht : t ≤ 500)  (h_p0 : TKc K V S t dt) (h_p1 : 0 ≤ dt 35 8 ∧ dt 35 8 ≤ (t : Int)) (h_p2 : ¬ dt 35 2 = 0 → dt 35 8 = (t : Int)) (h_p3 : dt 35 2 = 0 → dt 35 12 + 1 ≤ dt 35 8) : GO (am_XX L xs sio) (d + 1) 34 0 [some (.inr (.inr (some 35))), none] [] (SH, dt) (fun r w2 => ∃ dt2 : Nat → Nat → Int, w2 = (SH, dt2) ∧ InvC dt2 ∧ Fr [35, 42] dt dt2 ∧ ((r = none ∧ (SPX S t dt dt2 (gD K V)) ∧ (0 ≤ dt2 35 8 ∧ dt2 35 8 ≤ (t : Int)) ∧ (¬ dt2 35 2 = 0 → dt2 35 8 = (t : Int)) ∧ (dt 35 8 ≤ dt2 35 8) ∧ (dt2 35 2 = 0 → CDX dt dt2 ((eD V) (dt 35 8).toNat)) ∧ (dt2 35 2 = 0 → dt2 35 12 + dt 35 8 ≤ dt2 35 8 + dt 35 12 + 1) ∧ (dt2 35 1 = dt 35 1) ∧ (dt2 35 7 = dt 35 7)))) := by
  replace h_p2 := hid h_p2
  replace h_p3 := hid h_p3
  have hF : Fr [35, 42] dt dt := Fr_refl
  have r1 : 0 ≤ dt 35 12 ∧ dt 35 12 ≤ 500 := InvC_get hI 35 12 rfl rfl
  have r2 : (-2147483648) ≤ dt 35 2 ∧ dt 35 2 ≤ 2147483647 := InvC_get hI 35 2 rfl rfl
  have h7 : dt 35 7 = (t : Int) + 1 := h_p0.1
  have hk0 := TKc_k h_p0 h_p1
  have hv0 := hid (TKc_v h_p0 h_p1)
  have hs0 := TKc_s h_p0 h_p1
  have lt0_ := KZ_lt (i := (dt 35 8).toNat) hz
  refine go_toq PM34 (k := 1) (pc' := 1) (L' := [some (.inr (.inr (some 35))), none]) (st' := [.inr (.inr (some 35))]) (w' := (SH, dt)) rfl ?_
  refine go_callq PM34 PM23 (Q' := _) rfl rfl rfl rfl (sp_X1_nextNumber_f L xs sio (d + 0) dt hI K V S t hz ht  (by first | with_reducible assumption | exact unhid (by with_reducible assumption) | exact TKc_fr h_p0 hF (by decide) (by decide) (by decide) (by fail) | fail) (by first | with_reducible assumption | exact unhid (by with_reducible assumption) | exact TKc_fr h_p0 hF (by decide) (by decide) (by decide) (by fail) | fail) (by first | with_reducible assumption | exact unhid (by with_reducible assumption) | exact TKc_fr h_p0 hF (by decide) (by decide) (by decide) (by fail) | fail)) ?_
  rintro _ _ ⟨rfl, h3⟩
  refine ⟨rfl, ?_⟩
  rcases h3 with ⟨v_h3, rfl, h3r, h3⟩ | ⟨rfl, h3⟩
  · skip
    obtain ⟨h3_0, h3_1⟩ := h3
    refine go_ifq PM34 (k := 3) (p1 := 14) (p2 := 10) (L' := [some (.inr (.inr (some 35))), some (.inl v_h3)]) (st' := []) (w' := (SH, dt)) rfl (c_eq (a := v_h3) (b := (-1)) (by first | exact bnd h3r (by decide) (by decide) | exact ⟨by fail, by fail⟩) ⟨by decide, by decide⟩) (fun c5 => ?_) (fun c5 => ?_)
    · exfalso; omega
    · skip
      replace c5 := hid c5
      refine go_ifq PM34 (k := 1) (p1 := 29) (p2 := 14) (L' := [some (.inr (.inr (some 35))), some (.inl v_h3)]) (st' := []) (w' := (SH, dt)) rfl (z_ne (a := v_h3) (by first | exact bnd h3r (by decide) (by decide) | exact ⟨by fail, by fail⟩)) (fun c6 => ?_) (fun c6 => ?_)
      · skip
        replace c6 := hid c6
        refine go_toq PM34 (k := 2) (pc' := 31) (L' := [some (.inr (.inr (some 35))), some (.inl v_h3)]) (st' := [.inl v_h3, .inr (.inr (some 35))]) (w' := (SH, dt)) rfl ?_
        refine go_callq PM34 PM30 (Q' := _) rfl rfl rfl rfl (sp_X1_emit_f L xs sio (d + 0) dt hI  v_h3 (by first | exact bnd h3r (by decide) (by decide) | exact ⟨by fail, by fail⟩) ) ?_
        rintro _ _ ⟨dt8, rfl, hI9, hF10, h7⟩
        refine ⟨rfl, ?_⟩
        have hF11 : Fr [35, 42] dt dt8 := Fr_tr hF hF10 (by decide)
        rcases h7 with ⟨rfl, h7⟩
        obtain ⟨h7_0, h7_1, h7_2, h7_3, h7_4, h7_5, h7_6⟩ := h7
        replace h7_0 := hid h7_0
        replace h7_1 := hid h7_1
        have X12 : PX S t (gD K V) (gD K V) dt dt8 := PX_sm PX_0 (by omega) (by omega) (by omega)
        have ek13 : (dt8 35 8).toNat = (dt 35 8).toNat := by omega
        have kk14 : K (dt8 35 8).toNat = K (dt 35 8).toNat := congrArg K ek13
        have kk15 : V (dt8 35 8).toNat = V (dt 35 8).toNat := congrArg V ek13
        have Q16 : QX (eD V) (fun _ => [-4]) dt dt8 := QX_st QX_0 (fun z_ => by omega) (by omega) (fun z_ => h7_0 (by (have z_ := unhid h_p3; omega))) (fun z_ => by (try rw [show (dt8 35 8).toNat = (dt 35 8).toNat by first | with_reducible assumption | exact unhid (by with_reducible assumption) | fail]); first | done | (show [V (dt 35 8).toNat, -4] = [v_h3] ++ [-4]; rw [show v_h3 = V (dt 35 8).toNat by first | with_reducible assumption | exact unhid (by with_reducible assumption) | fail]; rfl))
        have ql17 := hid (fun (z_ : dt8 35 2 = 0) => (Q16 z_).1)
        refine go_toq PM34 (k := 2) (pc' := 37) (L' := [some (.inr (.inr (some 35))), some (.inl v_h3)]) (st' := [.inl (-4), .inr (.inr (some 35))]) (w' := (SH, dt8)) rfl ?_
        refine go_callq PM34 PM30 (Q' := _) rfl rfl rfl rfl (sp_X1_emit_f L xs sio (d + 0) dt8 hI9  (-4) ⟨by decide, by decide⟩ ) ?_
        rintro _ _ ⟨dt19, rfl, hI20, hF21, h18⟩
        refine ⟨rfl, ?_⟩
        have hF22 : Fr [35, 42] dt dt19 := Fr_tr hF11 hF21 (by decide)
        rcases h18 with ⟨rfl, h18⟩
        obtain ⟨h18_0, h18_1, h18_2, h18_3, h18_4, h18_5, h18_6⟩ := h18
        replace h18_0 := hid h18_0
        replace h18_1 := hid h18_1
        have v114_ := hid (And.intro (unhid h_p2) (And.intro (unhid h_p3) (And.intro (unhid hv0) (And.intro (unhid h7_1) (And.intro (unhid ql17) (unhid h18_1))))))
        have X23 : PX S t (gD K V) (gD K V) dt dt19 := PX_sm X12 (by omega) (by omega) (by omega)
        have ek24 : (dt19 35 8).toNat = (dt8 35 8).toNat := by omega
        have kk25 : K (dt19 35 8).toNat = K (dt8 35 8).toNat := congrArg K ek24
        have kk26 : V (dt19 35 8).toNat = V (dt8 35 8).toNat := congrArg V ek24
        have Q27 : QX (eD V) eNl dt dt19 := QX_st Q16 (fun z_ => by omega) (by omega) (fun z_ => h18_0 (by (have z_ := unhid v114_; omega))) (fun z_ => by (try rw [show (dt19 35 8).toNat = (dt8 35 8).toNat by first | with_reducible assumption | exact unhid (by with_reducible assumption) | fail]); first | done | (rfl))
        have ql28 := hid (fun (z_ : dt19 35 2 = 0) => (Q27 z_).1)
        refine go_toq PM34 (k := 5) (pc' := 47) (L' := [some (.inr (.inr (some 35))), some (.inl v_h3)]) (st' := [.inl ((dt19 35 8) + 1), .inr (.inr (some 35))]) (w' := (SH, dt19)) rfl ?_
        have hI29 : InvC (u2 dt19 35 8 ((dt19 35 8) + 1)) := InvC_u2 hI20 (lo := -2147483648) (hi := 2147483647) rfl rfl rfl (by omega) (by omega)
        have hF30 : Fr [35, 42] dt (u2 dt19 35 8 ((dt19 35 8) + 1)) := Fr_u2 hF22 (by decide)
        have w31 : (u2 dt19 35 8 ((dt19 35 8) + 1)) 35 1 = dt19 35 1 := rfl
        have w32 : (u2 dt19 35 8 ((dt19 35 8) + 1)) 35 2 = dt19 35 2 := rfl
        have w33 : (u2 dt19 35 8 ((dt19 35 8) + 1)) 35 3 = dt19 35 3 := rfl
        have w34 : (u2 dt19 35 8 ((dt19 35 8) + 1)) 35 7 = dt19 35 7 := rfl
        have w35 : (u2 dt19 35 8 ((dt19 35 8) + 1)) 35 8 = (dt19 35 8) + 1 := rfl
        have w36 : (u2 dt19 35 8 ((dt19 35 8) + 1)) 35 12 = dt19 35 12 := rfl
        have Q37 : QX (eD V) eNl dt (u2 dt19 35 8 ((dt19 35 8) + 1)) := QX_st Q27 (fun z_ => z_) (by omega) (fun _ => CDX_sm rfl (fun j => u2_ne (by omega))) (fun z_ => by (try rw [show ((u2 dt19 35 8 ((dt19 35 8) + 1)) 35 8).toNat = (dt19 35 8).toNat + 1 by first | with_reducible assumption | exact unhid (by with_reducible assumption) | omega]); first | done | (rfl))
        have ql38 := hid (fun (z_ : (u2 dt19 35 8 ((dt19 35 8) + 1)) 35 2 = 0) => (Q37 z_).1)
        have u117_ := hid (And.intro (unhid h_p2) (And.intro (unhid h_p3) (And.intro (unhid hv0) (And.intro (unhid c5) (And.intro (unhid c6) (And.intro (unhid h7_1) (And.intro (unhid ql17) (And.intro (unhid h18_1) (And.intro (unhid ql28) (unhid ql38))))))))))
        have lv40 := KLIVE hz (D := dt19) (by omega) (by omega) (by (have z_ := unhid h_p2; omega))
        have X39 : PX S t (gD K V) gOk dt (u2 dt19 35 8 ((dt19 35 8) + 1)) := PX_st X23 (SPX_inc hz (by omega) (by omega) (by omega) (by omega) (by omega)) (fun hl => by first | (show (gD K V) (dt19 35 8).toNat = gOk ((dt19 35 8).toNat + 1); unfold gD; rw [if_pos (by omega), if_neg (by (have z_ := unhid c6; omega))]; rfl) | (exfalso; fail))
        refine go_smpq PM34 (L' := [some (.inr (.inr (some 35))), some (.inl v_h3)]) (st' := []) (w' := (SH, (u2 dt19 35 8 ((dt19 35 8) + 1)))) rfl rfl (s_pf rfl rfl rfl rfl ⟨by omega, by omega⟩) ?_
        refine go_retq PM34 (k := 0) (r := none) (w1 := (SH, (u2 dt19 35 8 ((dt19 35 8) + 1)))) rfl ?_
        exact ⟨(u2 dt19 35 8 ((dt19 35 8) + 1)), rfl, hI29, hF30, ⟨rfl, ⟨by exact PX_e X39 (by omega), by first | exact True.intro | with_reducible assumption | exact unhid (by with_reducible assumption) | rfl | omega | trivial, by first | exact True.intro | with_reducible assumption | exact unhid (by with_reducible assumption) | rfl | omega | trivial, by first | exact True.intro | with_reducible assumption | exact unhid (by with_reducible assumption) | rfl | omega | trivial, by first | (intro z_; exfalso; fail) | exact QX_e Q37, by first | exact True.intro | with_reducible assumption | exact unhid (by with_reducible assumption) | rfl | (have z_ := unhid u117_; omega) | trivial, by first | exact True.intro | with_reducible assumption | exact unhid (by with_reducible assumption) | rfl | omega | trivial, by first | exact True.intro | with_reducible assumption | exact unhid (by with_reducible assumption) | rfl | omega | trivial⟩⟩⟩
      · skip
        refine go_ifq PM34 (k := 3) (p1 := 24) (p2 := 20) (L' := [some (.inr (.inr (some 35))), some (.inl v_h3)]) (st' := [.inr (.inr (some 35))]) (w' := (SH, dt)) rfl (c_ne (a := v_h3) (b := (-1)) (by first | exact bnd h3r (by decide) (by decide) | exact ⟨by fail, by fail⟩) ⟨by decide, by decide⟩) (fun c41 => ?_) (fun c41 => ?_)
        · skip
          replace c41 := hid c41
          refine go_toq PM34 (k := 1) (pc' := 25) (L' := [some (.inr (.inr (some 35))), some (.inl v_h3)]) (st' := [.inl 2, .inr (.inr (some 35))]) (w' := (SH, dt)) rfl ?_
          refine go_callq PM34 PM21 (Q' := _) rfl rfl rfl rfl (sp_X1_fail_f L xs sio (d + 0) dt hI K V S t hz ht 2 ⟨by decide, by decide⟩ (by first | with_reducible assumption | exact unhid (by with_reducible assumption) | exact TKc_fr h_p0 hF (by decide) (by decide) (by decide) (by fail) | fail) (by first | with_reducible assumption | exact unhid (by with_reducible assumption) | exact TKc_fr h_p0 hF (by decide) (by decide) (by decide) (by fail) | fail) (by first | with_reducible assumption | exact unhid (by with_reducible assumption) | exact TKc_fr h_p0 hF (by decide) (by decide) (by decide) (by fail) | fail)) ?_
          rintro _ _ ⟨dt43, rfl, hI44, hF45, h42⟩
          refine ⟨rfl, ?_⟩
          have hF46 : Fr [35, 42] dt dt43 := Fr_tr hF hF45 (by decide)
          rcases h42 with ⟨rfl, h42⟩
          obtain ⟨h42_0, h42_1, h42_2, h42_3, h42_4, h42_5⟩ := h42
          replace h42_2 := hid h42_2
          have X47 : PX S t (gD K V) gOk dt dt43 := PX_st PX_0 h42_0 (fun hl => by first | exact (by unfold gD; rw [if_pos (by omega), if_pos (by omega)] : _ = ((2 : Int), (dt 35 8).toNat)).trans (gB_no (by show ¬ ((2 : Int) = 0); omega)).symm | (exfalso; fail))
          have Q48 : QX (eD V) eNl dt dt43 := QX_no (by (have z_ := unhid h42_2; omega))
          have ql49 := hid (fun (z_ : dt43 35 2 = 0) => (Q48 z_).1)
          refine go_retq PM34 (k := 0) (r := none) (w1 := (SH, dt43)) rfl ?_
          exact ⟨dt43, rfl, hI44, hF46, ⟨rfl, ⟨by exact PX_e X47 (by omega), by first | exact True.intro | with_reducible assumption | exact unhid (by with_reducible assumption) | rfl | omega | trivial, by first | exact True.intro | with_reducible assumption | exact unhid (by with_reducible assumption) | rfl | omega | trivial, by first | exact True.intro | with_reducible assumption | exact unhid (by with_reducible assumption) | rfl | omega | trivial, by first | (intro z_; exfalso; (have z_ := unhid h42_2; omega)) | exact QX_e Q48, by first | exact True.intro | with_reducible assumption | exact unhid (by with_reducible assumption) | rfl | omega | trivial, by first | exact True.intro | with_reducible assumption | exact unhid (by with_reducible assumption) | rfl | fail | trivial, by first | exact True.intro | with_reducible assumption | exact unhid (by with_reducible assumption) | rfl | fail | trivial⟩⟩⟩
        · exfalso; omega
  · skip
    refine go_toq PM34 (k := 10) (pc' := 25) (L' := [some (.inr (.inr (some 35))), some (.inl (-1))]) (st' := [.inl 1, .inr (.inr (some 35))]) (w' := (SH, dt)) rfl ?_
    refine go_callq PM34 PM21 (Q' := _) rfl rfl rfl rfl (sp_X1_fail_f L xs sio (d + 0) dt hI K V S t hz ht 1 ⟨by decide, by decide⟩ (by first | with_reducible assumption | exact unhid (by with_reducible assumption) | exact TKc_fr h_p0 hF (by decide) (by decide) (by decide) (by fail) | fail) (by first | with_reducible assumption | exact unhid (by with_reducible assumption) | exact TKc_fr h_p0 hF (by decide) (by decide) (by decide) (by fail) | fail) (by first | with_reducible assumption | exact unhid (by with_reducible assumption) | exact TKc_fr h_p0 hF (by decide) (by decide) (by decide) (by fail) | fail)) ?_
    rintro _ _ ⟨dt52, rfl, hI53, hF54, h51⟩
    refine ⟨rfl, ?_⟩
    have hF55 : Fr [35, 42] dt dt52 := Fr_tr hF hF54 (by decide)
    rcases h51 with ⟨rfl, h51⟩
    obtain ⟨h51_0, h51_1, h51_2, h51_3, h51_4, h51_5⟩ := h51
    replace h51_2 := hid h51_2
    have X56 : PX S t (gD K V) gOk dt dt52 := PX_st PX_0 h51_0 (fun hl => by first | exact (by unfold gD; rw [if_neg (by omega)] : _ = ((1 : Int), (dt 35 8).toNat)).trans (gB_no (by show ¬ ((1 : Int) = 0); omega)).symm | (exfalso; fail))
    have Q57 : QX (eD V) eNl dt dt52 := QX_no (by (have z_ := unhid h51_2; omega))
    have ql58 := hid (fun (z_ : dt52 35 2 = 0) => (Q57 z_).1)
    refine go_retq PM34 (k := 0) (r := none) (w1 := (SH, dt52)) rfl ?_
    exact ⟨dt52, rfl, hI53, hF55, ⟨rfl, ⟨by exact PX_e X56 (by omega), by first | exact True.intro | with_reducible assumption | exact unhid (by with_reducible assumption) | rfl | omega | trivial, by first | exact True.intro | with_reducible assumption | exact unhid (by with_reducible assumption) | rfl | omega | trivial, by first | exact True.intro | with_reducible assumption | exact unhid (by with_reducible assumption) | rfl | omega | trivial, by first | (intro z_; exfalso; (have z_ := unhid h51_2; omega)) | exact QX_e Q57, by first | exact True.intro | with_reducible assumption | exact unhid (by with_reducible assumption) | rfl | omega | trivial, by first | exact True.intro | with_reducible assumption | exact unhid (by with_reducible assumption) | rfl | fail | trivial, by first | exact True.intro | with_reducible assumption | exact unhid (by with_reducible assumption) | rfl | fail | trivial⟩⟩⟩
