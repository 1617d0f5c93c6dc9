theorem sp_X1_token_f (L : Nat) (xs : Nat → Int32) (sio : Option Nat) (d : Nat) (dt : Nat → Nat → Int) (hI : InvC dt) (K V S : Nat → Int) (t : Nat) (hz : KZ K t) (ht : t ≤ 500)  (h_p0 : TKc K V S t dt) (h_p1 : 0 ≤ dt 35 8 ∧ dt 35 8 ≤ (t : Int)) (h_p2 : ¬ dt 35 2 = 0 → dt 35 8 = (t : Int)) : GO (am_XX L xs sio) (d) 20 0 [some (.inr (.inr (some 35)))] [] (SH, dt) (fun r w2 => w2 = (SH, dt) ∧ ((∃ v : Int, r = some (.inl v) ∧ (0 ≤ v ∧ v ≤ 1100) ∧ (v = K (dt 35 8).toNat)))) := by
  have r1 : (-2147483648) ≤ dt 35 8 ∧ dt 35 8 ≤ 2147483647 := InvC_get hI 35 8 rfl rfl
  have r2 : 0 ≤ dt 35 7 ∧ dt 35 7 ≤ 501 := InvC_get hI 35 7 rfl rfl
  have h7 : dt 35 7 = (t : Int) + 1 := h_p0.1
  have hk0 := TKc_k h_p0 h_p1
  have hv0 := TKc_v h_p0 h_p1
  have hs0 := TKc_s h_p0 h_p1
  refine go_ifq PM20 (k := 2) (p1 := 30) (p2 := 7) (L' := [some (.inr (.inr (some 35)))]) (st' := []) (w' := (SH, dt)) rfl (z_lt (a := dt 35 8) (by first | exact bnd r1 (by decide) (by decide) | exact ⟨by omega, by omega⟩)) (fun c3 => ?_) (fun c3 => ?_)
  · skip
    refine go_retq PM20 (k := 1) (r := some (.inl 0)) (w1 := (SH, dt)) rfl ?_
    exact ⟨rfl, ⟨_, rfl, ⟨by decide, by decide⟩, by omega⟩⟩
  · skip
    refine go_ifq PM20 (k := 4) (p1 := 30) (p2 := 18) (L' := [some (.inr (.inr (some 35)))]) (st' := []) (w' := (SH, dt)) rfl (c_ge (a := dt 35 8) (b := dt 35 7) (by first | exact bnd r1 (by decide) (by decide) | exact ⟨by omega, by omega⟩) (by first | exact bnd r2 (by decide) (by decide) | exact ⟨by omega, by omega⟩)) (fun c4 => ?_) (fun c4 => ?_)
    · skip
      refine go_retq PM20 (k := 1) (r := some (.inl 0)) (w1 := (SH, dt)) rfl ?_
      exact ⟨rfl, ⟨_, rfl, ⟨by decide, by decide⟩, by omega⟩⟩
    · skip
      refine go_toq PM20 (k := 4) (pc' := 26) (L' := [some (.inr (.inr (some 35)))]) (st' := [.inl (dt 35 8), .inr (.inr (some 37))]) (w' := (SH, dt)) rfl ?_
      have r5 : 0 ≤ dt 37 ((dt 35 8).toNat) ∧ dt 37 ((dt 35 8).toNat) ≤ 1100 := InvC_get hI 37 ((dt 35 8).toNat) rfl rfl
      refine go_smpq PM20 (L' := [some (.inr (.inr (some 35)))]) (st' := [.inl (dt 37 ((dt 35 8).toNat))]) (w' := (SH, dt)) rfl rfl (s_iald (n := 501) (f := dt 37) rfl (by first | exact bndc r1 c4 (by decide) (by decide) | exact bndx r1 (by decide) (by decide) | exact ⟨by omega, by omega⟩)) ?_
      refine go_retq PM20 (k := 1) (r := some (.inl (dt 37 ((dt 35 8).toNat)))) (w1 := (SH, dt)) rfl ?_
      exact ⟨rfl, ⟨_, rfl, (by first | exact bnd r5 (by decide) (by decide) | exact ⟨by omega, by omega⟩), by omega⟩⟩
theorem sp_X1_nextNumber_f (L : Nat) (xs : Nat → Int32) (sio : Option Nat) (d : Nat) (dt : Nat → Nat → Int) (hI : InvC dt) (K V S : Nat → Int) (t : Nat) (hz : KZ K t) (ht : t ≤ 500)  (h_p0 : TKc K V S t dt) (h_p1 : 0 ≤ dt 35 8 ∧ dt 35 8 ≤ (t : Int)) (h_p2 : ¬ dt 35 2 = 0 → dt 35 8 = (t : Int)) : GO (am_XX L xs sio) (d) 23 0 [some (.inr (.inr (some 35)))] [] (SH, dt) (fun r w2 => w2 = (SH, dt) ∧ ((∃ v : Int, r = some (.inl v) ∧ (0 ≤ v ∧ v ≤ 9999) ∧ (K (dt 35 8).toNat = 2) ∧ (v = V (dt 35 8).toNat)) ∨ (r = some (.inl (-1)) ∧ (¬ K (dt 35 8).toNat = 2)))) := by
  have r1 : (-2147483648) ≤ dt 35 8 ∧ dt 35 8 ≤ 2147483647 := InvC_get hI 35 8 rfl rfl
  have r2 : 0 ≤ dt 35 7 ∧ dt 35 7 ≤ 501 := InvC_get hI 35 7 rfl rfl
  have h7 : dt 35 7 = (t : Int) + 1 := h_p0.1
  have hk0 := TKc_k h_p0 h_p1
  have hv0 := TKc_v h_p0 h_p1
  have hs0 := TKc_s h_p0 h_p1
  refine go_ifq PM23 (k := 2) (p1 := 43) (p2 := 7) (L' := [some (.inr (.inr (some 35)))]) (st' := []) (w' := (SH, dt)) rfl (z_lt (a := dt 35 8) (by first | exact bnd r1 (by decide) (by decide) | exact ⟨by omega, by omega⟩)) (fun c3 => ?_) (fun c3 => ?_)
  · skip
    refine go_retq PM23 (k := 1) (r := some (.inl (-1))) (w1 := (SH, dt)) rfl ?_
    first | exact ⟨rfl, (Or.inl ⟨_, rfl, ⟨by decide, by decide⟩, ⟨by first | exact True.intro | assumption | rfl | omega | trivial, by first | exact True.intro | assumption | rfl | omega | trivial⟩⟩)⟩ | exact ⟨rfl, (Or.inr ⟨rfl, by first | exact True.intro | assumption | rfl | omega | trivial⟩)⟩
  · skip
    refine go_ifq PM23 (k := 4) (p1 := 43) (p2 := 18) (L' := [some (.inr (.inr (some 35)))]) (st' := []) (w' := (SH, dt)) rfl (c_ge (a := dt 35 8) (b := dt 35 7) (by first | exact bnd r1 (by decide) (by decide) | exact ⟨by omega, by omega⟩) (by first | exact bnd r2 (by decide) (by decide) | exact ⟨by omega, by omega⟩)) (fun c4 => ?_) (fun c4 => ?_)
    · skip
      refine go_retq PM23 (k := 1) (r := some (.inl (-1))) (w1 := (SH, dt)) rfl ?_
      first | exact ⟨rfl, (Or.inl ⟨_, rfl, ⟨by decide, by decide⟩, ⟨by first | exact True.intro | assumption | rfl | omega | trivial, by first | exact True.intro | assumption | rfl | omega | trivial⟩⟩)⟩ | exact ⟨rfl, (Or.inr ⟨rfl, by first | exact True.intro | assumption | rfl | omega | trivial⟩)⟩
    · skip
      refine go_toq PM23 (k := 4) (pc' := 26) (L' := [some (.inr (.inr (some 35)))]) (st' := [.inl (dt 35 8), .inr (.inr (some 37))]) (w' := (SH, dt)) rfl ?_
      have r5 : 0 ≤ dt 37 ((dt 35 8).toNat) ∧ dt 37 ((dt 35 8).toNat) ≤ 1100 := InvC_get hI 37 ((dt 35 8).toNat) rfl rfl
      refine go_smpq PM23 (L' := [some (.inr (.inr (some 35)))]) (st' := [.inl (dt 37 ((dt 35 8).toNat))]) (w' := (SH, dt)) rfl rfl (s_iald (n := 501) (f := dt 37) rfl (by first | exact bndc r1 c4 (by decide) (by decide) | exact bndx r1 (by decide) (by decide) | exact ⟨by omega, by omega⟩)) ?_
      refine go_ifq PM23 (k := 1) (p1 := 43) (p2 := 31) (L' := [some (.inr (.inr (some 35)))]) (st' := []) (w' := (SH, dt)) rfl (c_ne (a := dt 37 ((dt 35 8).toNat)) (b := 2) (by first | exact bnd r5 (by decide) (by decide) | exact ⟨by omega, by omega⟩) ⟨by decide, by decide⟩) (fun c6 => ?_) (fun c6 => ?_)
      · skip
        refine go_retq PM23 (k := 1) (r := some (.inl (-1))) (w1 := (SH, dt)) rfl ?_
        first | exact ⟨rfl, (Or.inl ⟨_, rfl, ⟨by decide, by decide⟩, ⟨by first | exact True.intro | assumption | rfl | omega | trivial, by first | exact True.intro | assumption | rfl | omega | trivial⟩⟩)⟩ | exact ⟨rfl, (Or.inr ⟨rfl, by first | exact True.intro | assumption | rfl | omega | trivial⟩)⟩
      · skip
        refine go_toq PM23 (k := 4) (pc' := 39) (L' := [some (.inr (.inr (some 35)))]) (st' := [.inl (dt 35 8), .inr (.inr (some 38))]) (w' := (SH, dt)) rfl ?_
        have r7 : (-2147483648) ≤ dt 38 ((dt 35 8).toNat) ∧ dt 38 ((dt 35 8).toNat) ≤ 2147483647 := InvC_get hI 38 ((dt 35 8).toNat) rfl rfl
        refine go_smpq PM23 (L' := [some (.inr (.inr (some 35)))]) (st' := [.inl (dt 38 ((dt 35 8).toNat))]) (w' := (SH, dt)) rfl rfl (s_iald (n := 501) (f := dt 38) rfl (by first | exact bndc r1 c4 (by decide) (by decide) | exact bndx r1 (by decide) (by decide) | exact ⟨by omega, by omega⟩)) ?_
        refine go_retq PM23 (k := 1) (r := some (.inl (dt 38 ((dt 35 8).toNat)))) (w1 := (SH, dt)) rfl ?_
        exact ⟨rfl, (Or.inl ⟨_, rfl, (by first | exact bnd r7 (by decide) (by decide) | exact ⟨by omega, by omega⟩), ⟨by first | exact True.intro | assumption | rfl | omega | trivial, by first | exact True.intro | assumption | rfl | omega | trivial⟩⟩)⟩
theorem sp_X1_fail_f (L : Nat) (xs : Nat → Int32) (sio : Option Nat) (d : Nat) (dt : Nat → Nat → Int) (hI : InvC dt) (K V S : Nat → Int) (t : Nat) (hz : KZ K t) (ht : t ≤ 500) (p1 : Int) (h_p1 : 1 ≤ p1 ∧ p1 ≤ 3) (h_p0 : TKc K V S t dt) (h_p1 : 0 ≤ dt 35 8 ∧ dt 35 8 ≤ (t : Int)) (h_p2 : ¬ dt 35 2 = 0 → dt 35 8 = (t : Int)) : GO (am_XX L xs sio) (d) 21 0 [some (.inr (.inr (some 35))), some (.inl p1)] [] (SH, dt) (fun r w2 => ∃ dt2 : Nat → Nat → Int, w2 = (SH, dt2) ∧ InvC dt2 ∧ Fr [35] dt dt2 ∧ ((r = none ∧ (SPX S t dt dt2 (fun i => (p1, i))) ∧ (dt2 35 8 = (t : Int)) ∧ (¬ dt2 35 2 = 0) ∧ (dt2 35 1 = dt 35 1) ∧ (dt2 35 7 = dt 35 7)))) := by
  have hF : Fr [35] dt dt := Fr_refl
  have r1 : (-2147483648) ≤ dt 35 8 ∧ dt 35 8 ≤ 2147483647 := InvC_get hI 35 8 rfl rfl
  have r2 : 0 ≤ dt 35 7 ∧ dt 35 7 ≤ 501 := InvC_get hI 35 7 rfl rfl
  have r3 : (-2147483648) ≤ dt 35 2 ∧ dt 35 2 ≤ 2147483647 := InvC_get hI 35 2 rfl rfl
  have h7 : dt 35 7 = (t : Int) + 1 := h_p0.1
  have hk0 := TKc_k h_p0 h_p1
  have hv0 := TKc_v h_p0 h_p1
  have hs0 := TKc_s h_p0 h_p1
  refine go_ifq PM21 (k := 2) (p1 := 47) (p2 := 7) (L' := [some (.inr (.inr (some 35))), some (.inl p1)]) (st' := []) (w' := (SH, dt)) rfl (z_ne (a := dt 35 2) (by first | exact bnd r3 (by decide) (by decide) | exact ⟨by omega, by omega⟩)) (fun c4 => ?_) (fun c4 => ?_)
  · skip
    refine go_ifq PM21 (k := 3) (p1 := 64) (p2 := 55) (L' := [some (.inr (.inr (some 35))), some (.inl p1)]) (st' := [.inr (.inr (some 35))]) (w' := (SH, dt)) rfl (z_le (a := dt 35 7) (by first | exact bnd r2 (by decide) (by decide) | exact ⟨by omega, by omega⟩)) (fun c5 => ?_) (fun c5 => ?_)
    · skip
      refine go_toq PM21 (k := 1) (pc' := 65) (L' := [some (.inr (.inr (some 35))), some (.inl p1)]) (st' := [.inl 0, .inr (.inr (some 35))]) (w' := (SH, dt)) rfl ?_
      have hI6 : InvC (u2 dt 35 8 0) := InvC_u2 hI (lo := -2147483648) (hi := 2147483647) rfl rfl rfl (by decide) (by decide)
      have hF7 : Fr [35] dt (u2 dt 35 8 0) := Fr_u2 hF (by decide)
      have w8 : (u2 dt 35 8 0) 35 1 = dt 35 1 := rfl
      have w9 : (u2 dt 35 8 0) 35 2 = dt 35 2 := rfl
      have w10 : (u2 dt 35 8 0) 35 3 = dt 35 3 := rfl
      have w11 : (u2 dt 35 8 0) 35 7 = dt 35 7 := rfl
      have w12 : (u2 dt 35 8 0) 35 8 = 0 := rfl
      refine go_smpq PM21 (L' := [some (.inr (.inr (some 35))), some (.inl p1)]) (st' := []) (w' := (SH, (u2 dt 35 8 0))) rfl rfl (s_pf rfl rfl rfl rfl ⟨by decide, by decide⟩) ?_
      refine go_retq PM21 (k := 0) (r := none) (w1 := (SH, (u2 dt 35 8 0))) rfl ?_
      exact ⟨(u2 dt 35 8 0), rfl, hI6, hF7, ⟨rfl, ⟨by exact SPX_no (by omega) (fun z => ⟨by omega, by omega⟩) (fun z => ⟨by omega, by omega⟩) (by omega), by first | exact True.intro | assumption | rfl | omega | trivial, by first | exact True.intro | assumption | rfl | omega | trivial, by first | exact True.intro | assumption | rfl | omega | trivial, by first | exact True.intro | assumption | rfl | omega | trivial⟩⟩⟩
    · skip
      refine go_toq PM21 (k := 5) (pc' := 65) (L' := [some (.inr (.inr (some 35))), some (.inl p1)]) (st' := [.inl ((dt 35 7) - 1), .inr (.inr (some 35))]) (w' := (SH, dt)) rfl ?_
      have hI13 : InvC (u2 dt 35 8 ((dt 35 7) - 1)) := InvC_u2 hI (lo := -2147483648) (hi := 2147483647) rfl rfl rfl (by omega) (by omega)
      have hF14 : Fr [35] dt (u2 dt 35 8 ((dt 35 7) - 1)) := Fr_u2 hF (by decide)
      have w15 : (u2 dt 35 8 ((dt 35 7) - 1)) 35 1 = dt 35 1 := rfl
      have w16 : (u2 dt 35 8 ((dt 35 7) - 1)) 35 2 = dt 35 2 := rfl
      have w17 : (u2 dt 35 8 ((dt 35 7) - 1)) 35 3 = dt 35 3 := rfl
      have w18 : (u2 dt 35 8 ((dt 35 7) - 1)) 35 7 = dt 35 7 := rfl
      have w19 : (u2 dt 35 8 ((dt 35 7) - 1)) 35 8 = (dt 35 7) - 1 := rfl
      refine go_smpq PM21 (L' := [some (.inr (.inr (some 35))), some (.inl p1)]) (st' := []) (w' := (SH, (u2 dt 35 8 ((dt 35 7) - 1)))) rfl rfl (s_pf rfl rfl rfl rfl ⟨by omega, by omega⟩) ?_
      refine go_retq PM21 (k := 0) (r := none) (w1 := (SH, (u2 dt 35 8 ((dt 35 7) - 1)))) rfl ?_
      exact ⟨(u2 dt 35 8 ((dt 35 7) - 1)), rfl, hI13, hF14, ⟨rfl, ⟨by exact SPX_no (by omega) (fun z => ⟨by omega, by omega⟩) (fun z => ⟨by omega, by omega⟩) (by omega), by first | exact True.intro | assumption | rfl | omega | trivial, by first | exact True.intro | assumption | rfl | omega | trivial, by first | exact True.intro | assumption | rfl | omega | trivial, by first | exact True.intro | assumption | rfl | omega | trivial⟩⟩⟩
  · skip
    refine go_toq PM21 (k := 2) (pc' := 9) (L' := [some (.inr (.inr (some 35))), some (.inl p1)]) (st' := [.inl p1, .inr (.inr (some 35))]) (w' := (SH, dt)) rfl ?_
    have hI20 : InvC (u2 dt 35 2 p1) := InvC_u2 hI (lo := -2147483648) (hi := 2147483647) rfl rfl rfl (by first | exact bnd1 h_p1 (by decide) | omega) (by first | exact bnd2 h_p1 (by decide) | omega)
    have hF21 : Fr [35] dt (u2 dt 35 2 p1) := Fr_u2 hF (by decide)
    have w22 : (u2 dt 35 2 p1) 35 1 = dt 35 1 := rfl
    have w23 : (u2 dt 35 2 p1) 35 2 = p1 := rfl
    have w24 : (u2 dt 35 2 p1) 35 3 = dt 35 3 := rfl
    have w25 : (u2 dt 35 2 p1) 35 7 = dt 35 7 := rfl
    have w26 : (u2 dt 35 2 p1) 35 8 = dt 35 8 := rfl
    refine go_smpq PM21 (L' := [some (.inr (.inr (some 35))), some (.inl p1)]) (st' := []) (w' := (SH, (u2 dt 35 2 p1))) rfl rfl (s_pf rfl rfl rfl rfl (by first | exact bnd h_p1 (by decide) (by decide) | exact ⟨by omega, by omega⟩)) ?_
    refine go_ifq PM21 (k := 3) (p1 := 43) (p2 := 20) (L' := [some (.inr (.inr (some 35))), some (.inl p1)]) (st' := [.inr (.inr (some 35))]) (w' := (SH, (u2 dt 35 2 p1))) rfl (z_lt (a := dt 35 8) (by first | exact bnd r1 (by decide) (by decide) | exact ⟨by omega, by omega⟩)) (fun c27 => ?_) (fun c27 => ?_)
    · skip
      refine go_toq PM21 (k := 1) (pc' := 44) (L' := [some (.inr (.inr (some 35))), some (.inl p1)]) (st' := [.inl (-1), .inr (.inr (some 35))]) (w' := (SH, (u2 dt 35 2 p1))) rfl ?_
      have hI28 : InvC (u2 (u2 dt 35 2 p1) 35 3 (-1)) := InvC_u2 hI20 (lo := -2147483648) (hi := 2147483647) rfl rfl rfl (by decide) (by decide)
      have hF29 : Fr [35] dt (u2 (u2 dt 35 2 p1) 35 3 (-1)) := Fr_u2 hF21 (by decide)
      have w30 : (u2 (u2 dt 35 2 p1) 35 3 (-1)) 35 1 = (u2 dt 35 2 p1) 35 1 := rfl
      have w31 : (u2 (u2 dt 35 2 p1) 35 3 (-1)) 35 2 = (u2 dt 35 2 p1) 35 2 := rfl
      have w32 : (u2 (u2 dt 35 2 p1) 35 3 (-1)) 35 3 = (-1) := rfl
      have w33 : (u2 (u2 dt 35 2 p1) 35 3 (-1)) 35 7 = (u2 dt 35 2 p1) 35 7 := rfl
      have w34 : (u2 (u2 dt 35 2 p1) 35 3 (-1)) 35 8 = (u2 dt 35 2 p1) 35 8 := rfl
      refine go_smpq PM21 (L' := [some (.inr (.inr (some 35))), some (.inl p1)]) (st' := []) (w' := (SH, (u2 (u2 dt 35 2 p1) 35 3 (-1)))) rfl rfl (s_pf rfl rfl rfl rfl ⟨by decide, by decide⟩) ?_
      refine go_ifq PM21 (k := 3) (p1 := 64) (p2 := 55) (L' := [some (.inr (.inr (some 35))), some (.inl p1)]) (st' := [.inr (.inr (some 35))]) (w' := (SH, (u2 (u2 dt 35 2 p1) 35 3 (-1)))) rfl (z_le (a := dt 35 7) (by first | exact bnd r2 (by decide) (by decide) | exact ⟨by omega, by omega⟩)) (fun c35 => ?_) (fun c35 => ?_)
      · skip
        refine go_toq PM21 (k := 1) (pc' := 65) (L' := [some (.inr (.inr (some 35))), some (.inl p1)]) (st' := [.inl 0, .inr (.inr (some 35))]) (w' := (SH, (u2 (u2 dt 35 2 p1) 35 3 (-1)))) rfl ?_
        have hI36 : InvC (u2 (u2 (u2 dt 35 2 p1) 35 3 (-1)) 35 8 0) := InvC_u2 hI28 (lo := -2147483648) (hi := 2147483647) rfl rfl rfl (by decide) (by decide)
        have hF37 : Fr [35] dt (u2 (u2 (u2 dt 35 2 p1) 35 3 (-1)) 35 8 0) := Fr_u2 hF29 (by decide)
        have w38 : (u2 (u2 (u2 dt 35 2 p1) 35 3 (-1)) 35 8 0) 35 1 = (u2 (u2 dt 35 2 p1) 35 3 (-1)) 35 1 := rfl
        have w39 : (u2 (u2 (u2 dt 35 2 p1) 35 3 (-1)) 35 8 0) 35 2 = (u2 (u2 dt 35 2 p1) 35 3 (-1)) 35 2 := rfl
        have w40 : (u2 (u2 (u2 dt 35 2 p1) 35 3 (-1)) 35 8 0) 35 3 = (u2 (u2 dt 35 2 p1) 35 3 (-1)) 35 3 := rfl
        have w41 : (u2 (u2 (u2 dt 35 2 p1) 35 3 (-1)) 35 8 0) 35 7 = (u2 (u2 dt 35 2 p1) 35 3 (-1)) 35 7 := rfl
        have w42 : (u2 (u2 (u2 dt 35 2 p1) 35 3 (-1)) 35 8 0) 35 8 = 0 := rfl
        refine go_smpq PM21 (L' := [some (.inr (.inr (some 35))), some (.inl p1)]) (st' := []) (w' := (SH, (u2 (u2 (u2 dt 35 2 p1) 35 3 (-1)) 35 8 0))) rfl rfl (s_pf rfl rfl rfl rfl ⟨by decide, by decide⟩) ?_
        refine go_retq PM21 (k := 0) (r := none) (w1 := (SH, (u2 (u2 (u2 dt 35 2 p1) 35 3 (-1)) 35 8 0))) rfl ?_
        exact ⟨(u2 (u2 (u2 dt 35 2 p1) 35 3 (-1)) 35 8 0), rfl, hI36, hF37, ⟨rfl, ⟨by exact SPX_no (by omega) (fun z => ⟨by omega, by omega⟩) (fun z => ⟨by omega, by omega⟩) (by omega), by first | exact True.intro | assumption | rfl | omega | trivial, by first | exact True.intro | assumption | rfl | omega | trivial, by first | exact True.intro | assumption | rfl | omega | trivial, by first | exact True.intro | assumption | rfl | omega | trivial⟩⟩⟩
      · skip
        refine go_toq PM21 (k := 5) (pc' := 65) (L' := [some (.inr (.inr (some 35))), some (.inl p1)]) (st' := [.inl ((dt 35 7) - 1), .inr (.inr (some 35))]) (w' := (SH, (u2 (u2 dt 35 2 p1) 35 3 (-1)))) rfl ?_
        have hI43 : InvC (u2 (u2 (u2 dt 35 2 p1) 35 3 (-1)) 35 8 ((dt 35 7) - 1)) := InvC_u2 hI28 (lo := -2147483648) (hi := 2147483647) rfl rfl rfl (by omega) (by omega)
        have hF44 : Fr [35] dt (u2 (u2 (u2 dt 35 2 p1) 35 3 (-1)) 35 8 ((dt 35 7) - 1)) := Fr_u2 hF29 (by decide)
        have w45 : (u2 (u2 (u2 dt 35 2 p1) 35 3 (-1)) 35 8 ((dt 35 7) - 1)) 35 1 = (u2 (u2 dt 35 2 p1) 35 3 (-1)) 35 1 := rfl
        have w46 : (u2 (u2 (u2 dt 35 2 p1) 35 3 (-1)) 35 8 ((dt 35 7) - 1)) 35 2 = (u2 (u2 dt 35 2 p1) 35 3 (-1)) 35 2 := rfl
        have w47 : (u2 (u2 (u2 dt 35 2 p1) 35 3 (-1)) 35 8 ((dt 35 7) - 1)) 35 3 = (u2 (u2 dt 35 2 p1) 35 3 (-1)) 35 3 := rfl
        have w48 : (u2 (u2 (u2 dt 35 2 p1) 35 3 (-1)) 35 8 ((dt 35 7) - 1)) 35 7 = (u2 (u2 dt 35 2 p1) 35 3 (-1)) 35 7 := rfl
        have w49 : (u2 (u2 (u2 dt 35 2 p1) 35 3 (-1)) 35 8 ((dt 35 7) - 1)) 35 8 = (dt 35 7) - 1 := rfl
        refine go_smpq PM21 (L' := [some (.inr (.inr (some 35))), some (.inl p1)]) (st' := []) (w' := (SH, (u2 (u2 (u2 dt 35 2 p1) 35 3 (-1)) 35 8 ((dt 35 7) - 1)))) rfl rfl (s_pf rfl rfl rfl rfl ⟨by omega, by omega⟩) ?_
        refine go_retq PM21 (k := 0) (r := none) (w1 := (SH, (u2 (u2 (u2 dt 35 2 p1) 35 3 (-1)) 35 8 ((dt 35 7) - 1)))) rfl ?_
        exact ⟨(u2 (u2 (u2 dt 35 2 p1) 35 3 (-1)) 35 8 ((dt 35 7) - 1)), rfl, hI43, hF44, ⟨rfl, ⟨by exact SPX_no (by omega) (fun z => ⟨by omega, by omega⟩) (fun z => ⟨by omega, by omega⟩) (by omega), by first | exact True.intro | assumption | rfl | omega | trivial, by first | exact True.intro | assumption | rfl | omega | trivial, by first | exact True.intro | assumption | rfl | omega | trivial, by first | exact True.intro | assumption | rfl | omega | trivial⟩⟩⟩
    · skip
      refine go_ifq PM21 (k := 4) (p1 := 43) (p2 := 31) (L' := [some (.inr (.inr (some 35))), some (.inl p1)]) (st' := [.inr (.inr (some 35))]) (w' := (SH, (u2 dt 35 2 p1))) rfl (c_ge (a := dt 35 8) (b := dt 35 7) (by first | exact bnd r1 (by decide) (by decide) | exact ⟨by omega, by omega⟩) (by first | exact bnd r2 (by decide) (by decide) | exact ⟨by omega, by omega⟩)) (fun c50 => ?_) (fun c50 => ?_)
      · skip
        refine go_toq PM21 (k := 1) (pc' := 44) (L' := [some (.inr (.inr (some 35))), some (.inl p1)]) (st' := [.inl (-1), .inr (.inr (some 35))]) (w' := (SH, (u2 dt 35 2 p1))) rfl ?_
        have hI51 : InvC (u2 (u2 dt 35 2 p1) 35 3 (-1)) := InvC_u2 hI20 (lo := -2147483648) (hi := 2147483647) rfl rfl rfl (by decide) (by decide)
        have hF52 : Fr [35] dt (u2 (u2 dt 35 2 p1) 35 3 (-1)) := Fr_u2 hF21 (by decide)
        have w53 : (u2 (u2 dt 35 2 p1) 35 3 (-1)) 35 1 = (u2 dt 35 2 p1) 35 1 := rfl
        have w54 : (u2 (u2 dt 35 2 p1) 35 3 (-1)) 35 2 = (u2 dt 35 2 p1) 35 2 := rfl
        have w55 : (u2 (u2 dt 35 2 p1) 35 3 (-1)) 35 3 = (-1) := rfl
        have w56 : (u2 (u2 dt 35 2 p1) 35 3 (-1)) 35 7 = (u2 dt 35 2 p1) 35 7 := rfl
        have w57 : (u2 (u2 dt 35 2 p1) 35 3 (-1)) 35 8 = (u2 dt 35 2 p1) 35 8 := rfl
        refine go_smpq PM21 (L' := [some (.inr (.inr (some 35))), some (.inl p1)]) (st' := []) (w' := (SH, (u2 (u2 dt 35 2 p1) 35 3 (-1)))) rfl rfl (s_pf rfl rfl rfl rfl ⟨by decide, by decide⟩) ?_
        refine go_ifq PM21 (k := 3) (p1 := 64) (p2 := 55) (L' := [some (.inr (.inr (some 35))), some (.inl p1)]) (st' := [.inr (.inr (some 35))]) (w' := (SH, (u2 (u2 dt 35 2 p1) 35 3 (-1)))) rfl (z_le (a := dt 35 7) (by first | exact bnd r2 (by decide) (by decide) | exact ⟨by omega, by omega⟩)) (fun c58 => ?_) (fun c58 => ?_)
        · skip
          refine go_toq PM21 (k := 1) (pc' := 65) (L' := [some (.inr (.inr (some 35))), some (.inl p1)]) (st' := [.inl 0, .inr (.inr (some 35))]) (w' := (SH, (u2 (u2 dt 35 2 p1) 35 3 (-1)))) rfl ?_
          have hI59 : InvC (u2 (u2 (u2 dt 35 2 p1) 35 3 (-1)) 35 8 0) := InvC_u2 hI51 (lo := -2147483648) (hi := 2147483647) rfl rfl rfl (by decide) (by decide)
          have hF60 : Fr [35] dt (u2 (u2 (u2 dt 35 2 p1) 35 3 (-1)) 35 8 0) := Fr_u2 hF52 (by decide)
          have w61 : (u2 (u2 (u2 dt 35 2 p1) 35 3 (-1)) 35 8 0) 35 1 = (u2 (u2 dt 35 2 p1) 35 3 (-1)) 35 1 := rfl
          have w62 : (u2 (u2 (u2 dt 35 2 p1) 35 3 (-1)) 35 8 0) 35 2 = (u2 (u2 dt 35 2 p1) 35 3 (-1)) 35 2 := rfl
          have w63 : (u2 (u2 (u2 dt 35 2 p1) 35 3 (-1)) 35 8 0) 35 3 = (u2 (u2 dt 35 2 p1) 35 3 (-1)) 35 3 := rfl
          have w64 : (u2 (u2 (u2 dt 35 2 p1) 35 3 (-1)) 35 8 0) 35 7 = (u2 (u2 dt 35 2 p1) 35 3 (-1)) 35 7 := rfl
          have w65 : (u2 (u2 (u2 dt 35 2 p1) 35 3 (-1)) 35 8 0) 35 8 = 0 := rfl
          refine go_smpq PM21 (L' := [some (.inr (.inr (some 35))), some (.inl p1)]) (st' := []) (w' := (SH, (u2 (u2 (u2 dt 35 2 p1) 35 3 (-1)) 35 8 0))) rfl rfl (s_pf rfl rfl rfl rfl ⟨by decide, by decide⟩) ?_
          refine go_retq PM21 (k := 0) (r := none) (w1 := (SH, (u2 (u2 (u2 dt 35 2 p1) 35 3 (-1)) 35 8 0))) rfl ?_
          exact ⟨(u2 (u2 (u2 dt 35 2 p1) 35 3 (-1)) 35 8 0), rfl, hI59, hF60, ⟨rfl, ⟨by exact SPX_no (by omega) (fun z => ⟨by omega, by omega⟩) (fun z => ⟨by omega, by omega⟩) (by omega), by first | exact True.intro | assumption | rfl | omega | trivial, by first | exact True.intro | assumption | rfl | omega | trivial, by first | exact True.intro | assumption | rfl | omega | trivial, by first | exact True.intro | assumption | rfl | omega | trivial⟩⟩⟩
        · skip
          refine go_toq PM21 (k := 5) (pc' := 65) (L' := [some (.inr (.inr (some 35))), some (.inl p1)]) (st' := [.inl ((dt 35 7) - 1), .inr (.inr (some 35))]) (w' := (SH, (u2 (u2 dt 35 2 p1) 35 3 (-1)))) rfl ?_
          have hI66 : InvC (u2 (u2 (u2 dt 35 2 p1) 35 3 (-1)) 35 8 ((dt 35 7) - 1)) := InvC_u2 hI51 (lo := -2147483648) (hi := 2147483647) rfl rfl rfl (by omega) (by omega)
          have hF67 : Fr [35] dt (u2 (u2 (u2 dt 35 2 p1) 35 3 (-1)) 35 8 ((dt 35 7) - 1)) := Fr_u2 hF52 (by decide)
          have w68 : (u2 (u2 (u2 dt 35 2 p1) 35 3 (-1)) 35 8 ((dt 35 7) - 1)) 35 1 = (u2 (u2 dt 35 2 p1) 35 3 (-1)) 35 1 := rfl
          have w69 : (u2 (u2 (u2 dt 35 2 p1) 35 3 (-1)) 35 8 ((dt 35 7) - 1)) 35 2 = (u2 (u2 dt 35 2 p1) 35 3 (-1)) 35 2 := rfl
          have w70 : (u2 (u2 (u2 dt 35 2 p1) 35 3 (-1)) 35 8 ((dt 35 7) - 1)) 35 3 = (u2 (u2 dt 35 2 p1) 35 3 (-1)) 35 3 := rfl
          have w71 : (u2 (u2 (u2 dt 35 2 p1) 35 3 (-1)) 35 8 ((dt 35 7) - 1)) 35 7 = (u2 (u2 dt 35 2 p1) 35 3 (-1)) 35 7 := rfl
          have w72 : (u2 (u2 (u2 dt 35 2 p1) 35 3 (-1)) 35 8 ((dt 35 7) - 1)) 35 8 = (dt 35 7) - 1 := rfl
          refine go_smpq PM21 (L' := [some (.inr (.inr (some 35))), some (.inl p1)]) (st' := []) (w' := (SH, (u2 (u2 (u2 dt 35 2 p1) 35 3 (-1)) 35 8 ((dt 35 7) - 1)))) rfl rfl (s_pf rfl rfl rfl rfl ⟨by omega, by omega⟩) ?_
          refine go_retq PM21 (k := 0) (r := none) (w1 := (SH, (u2 (u2 (u2 dt 35 2 p1) 35 3 (-1)) 35 8 ((dt 35 7) - 1)))) rfl ?_
          exact ⟨(u2 (u2 (u2 dt 35 2 p1) 35 3 (-1)) 35 8 ((dt 35 7) - 1)), rfl, hI66, hF67, ⟨rfl, ⟨by exact SPX_no (by omega) (fun z => ⟨by omega, by omega⟩) (fun z => ⟨by omega, by omega⟩) (by omega), by first | exact True.intro | assumption | rfl | omega | trivial, by first | exact True.intro | assumption | rfl | omega | trivial, by first | exact True.intro | assumption | rfl | omega | trivial, by first | exact True.intro | assumption | rfl | omega | trivial⟩⟩⟩
      · skip
        refine go_toq PM21 (k := 4) (pc' := 39) (L' := [some (.inr (.inr (some 35))), some (.inl p1)]) (st' := [.inl (dt 35 8), .inr (.inr (some 39)), .inr (.inr (some 35))]) (w' := (SH, (u2 dt 35 2 p1))) rfl ?_
        have r73 : (-2147483648) ≤ dt 39 ((dt 35 8).toNat) ∧ dt 39 ((dt 35 8).toNat) ≤ 2147483647 := InvC_get hI 39 ((dt 35 8).toNat) rfl rfl
        refine go_smpq PM21 (L' := [some (.inr (.inr (some 35))), some (.inl p1)]) (st' := [.inl (dt 39 ((dt 35 8).toNat)), .inr (.inr (some 35))]) (w' := (SH, (u2 dt 35 2 p1))) rfl rfl (s_iald (n := 501) (f := (u2 dt 35 2 p1) 39) rfl (by first | exact bndc r1 c50 (by decide) (by decide) | exact bndx r1 (by decide) (by decide) | exact ⟨by omega, by omega⟩)) ?_
        refine go_toq PM21 (k := 1) (pc' := 44) (L' := [some (.inr (.inr (some 35))), some (.inl p1)]) (st' := [.inl (dt 39 ((dt 35 8).toNat)), .inr (.inr (some 35))]) (w' := (SH, (u2 dt 35 2 p1))) rfl ?_
        have hI74 : InvC (u2 (u2 dt 35 2 p1) 35 3 (dt 39 ((dt 35 8).toNat))) := InvC_u2 hI20 (lo := -2147483648) (hi := 2147483647) rfl rfl rfl (by first | exact bnd1 r73 (by decide) | omega) (by first | exact bnd2 r73 (by decide) | omega)
        have hF75 : Fr [35] dt (u2 (u2 dt 35 2 p1) 35 3 (dt 39 ((dt 35 8).toNat))) := Fr_u2 hF21 (by decide)
        have w76 : (u2 (u2 dt 35 2 p1) 35 3 (dt 39 ((dt 35 8).toNat))) 35 1 = (u2 dt 35 2 p1) 35 1 := rfl
        have w77 : (u2 (u2 dt 35 2 p1) 35 3 (dt 39 ((dt 35 8).toNat))) 35 2 = (u2 dt 35 2 p1) 35 2 := rfl
        have w78 : (u2 (u2 dt 35 2 p1) 35 3 (dt 39 ((dt 35 8).toNat))) 35 3 = dt 39 ((dt 35 8).toNat) := rfl
        have w79 : (u2 (u2 dt 35 2 p1) 35 3 (dt 39 ((dt 35 8).toNat))) 35 7 = (u2 dt 35 2 p1) 35 7 := rfl
        have w80 : (u2 (u2 dt 35 2 p1) 35 3 (dt 39 ((dt 35 8).toNat))) 35 8 = (u2 dt 35 2 p1) 35 8 := rfl
        refine go_smpq PM21 (L' := [some (.inr (.inr (some 35))), some (.inl p1)]) (st' := []) (w' := (SH, (u2 (u2 dt 35 2 p1) 35 3 (dt 39 ((dt 35 8).toNat))))) rfl rfl (s_pf rfl rfl rfl rfl (by first | exact bnd r73 (by decide) (by decide) | exact ⟨by omega, by omega⟩)) ?_
        refine go_ifq PM21 (k := 3) (p1 := 64) (p2 := 55) (L' := [some (.inr (.inr (some 35))), some (.inl p1)]) (st' := [.inr (.inr (some 35))]) (w' := (SH, (u2 (u2 dt 35 2 p1) 35 3 (dt 39 ((dt 35 8).toNat))))) rfl (z_le (a := dt 35 7) (by first | exact bnd r2 (by decide) (by decide) | exact ⟨by omega, by omega⟩)) (fun c81 => ?_) (fun c81 => ?_)
        · exfalso; omega
        · skip
          refine go_toq PM21 (k := 5) (pc' := 65) (L' := [some (.inr (.inr (some 35))), some (.inl p1)]) (st' := [.inl ((dt 35 7) - 1), .inr (.inr (some 35))]) (w' := (SH, (u2 (u2 dt 35 2 p1) 35 3 (dt 39 ((dt 35 8).toNat))))) rfl ?_
          have hI82 : InvC (u2 (u2 (u2 dt 35 2 p1) 35 3 (dt 39 ((dt 35 8).toNat))) 35 8 ((dt 35 7) - 1)) := InvC_u2 hI74 (lo := -2147483648) (hi := 2147483647) rfl rfl rfl (by omega) (by omega)
          have hF83 : Fr [35] dt (u2 (u2 (u2 dt 35 2 p1) 35 3 (dt 39 ((dt 35 8).toNat))) 35 8 ((dt 35 7) - 1)) := Fr_u2 hF75 (by decide)
          have w84 : (u2 (u2 (u2 dt 35 2 p1) 35 3 (dt 39 ((dt 35 8).toNat))) 35 8 ((dt 35 7) - 1)) 35 1 = (u2 (u2 dt 35 2 p1) 35 3 (dt 39 ((dt 35 8).toNat))) 35 1 := rfl
          have w85 : (u2 (u2 (u2 dt 35 2 p1) 35 3 (dt 39 ((dt 35 8).toNat))) 35 8 ((dt 35 7) - 1)) 35 2 = (u2 (u2 dt 35 2 p1) 35 3 (dt 39 ((dt 35 8).toNat))) 35 2 := rfl
          have w86 : (u2 (u2 (u2 dt 35 2 p1) 35 3 (dt 39 ((dt 35 8).toNat))) 35 8 ((dt 35 7) - 1)) 35 3 = (u2 (u2 dt 35 2 p1) 35 3 (dt 39 ((dt 35 8).toNat))) 35 3 := rfl
          have w87 : (u2 (u2 (u2 dt 35 2 p1) 35 3 (dt 39 ((dt 35 8).toNat))) 35 8 ((dt 35 7) - 1)) 35 7 = (u2 (u2 dt 35 2 p1) 35 3 (dt 39 ((dt 35 8).toNat))) 35 7 := rfl
          have w88 : (u2 (u2 (u2 dt 35 2 p1) 35 3 (dt 39 ((dt 35 8).toNat))) 35 8 ((dt 35 7) - 1)) 35 8 = (dt 35 7) - 1 := rfl
          refine go_smpq PM21 (L' := [some (.inr (.inr (some 35))), some (.inl p1)]) (st' := []) (w' := (SH, (u2 (u2 (u2 dt 35 2 p1) 35 3 (dt 39 ((dt 35 8).toNat))) 35 8 ((dt 35 7) - 1)))) rfl rfl (s_pf rfl rfl rfl rfl ⟨by omega, by omega⟩) ?_
          refine go_retq PM21 (k := 0) (r := none) (w1 := (SH, (u2 (u2 (u2 dt 35 2 p1) 35 3 (dt 39 ((dt 35 8).toNat))) 35 8 ((dt 35 7) - 1)))) rfl ?_
          exact ⟨(u2 (u2 (u2 dt 35 2 p1) 35 3 (dt 39 ((dt 35 8).toNat))) 35 8 ((dt 35 7) - 1)), rfl, hI82, hF83, ⟨rfl, ⟨by exact SPX_no (by omega) (fun z => ⟨by omega, by omega⟩) (fun z => ⟨by omega, by omega⟩) (by omega), by first | exact True.intro | assumption | rfl | omega | trivial, by first | exact True.intro | assumption | rfl | omega | trivial, by first | exact True.intro | assumption | rfl | omega | trivial, by first | exact True.intro | assumption | rfl | omega | trivial⟩⟩⟩
theorem sp_X1_skip_f (L : Nat) (xs : Nat → Int32) (sio : Option Nat) (d : Nat) (dt : Nat → Nat → Int) (hI : InvC dt) (K V S : Nat → Int) (t : Nat) (hz : KZ K t) (ht : t ≤ 500) (p1 : Int) (h_p1 : 1 ≤ p1 ∧ p1 ≤ 1100) (h_p0 : TKc K V S t dt) (h_p1 : 0 ≤ dt 35 8 ∧ dt 35 8 ≤ (t : Int)) (h_p2 : ¬ dt 35 2 = 0 → dt 35 8 = (t : Int)) : GO (am_XX L xs sio) (d + 1) 22 0 [some (.inr (.inr (some 35))), some (.inl p1)] [] (SH, dt) (fun r w2 => ∃ dt2 : Nat → Nat → Int, w2 = (SH, dt2) ∧ InvC dt2 ∧ Fr [35] dt dt2 ∧ ((r = none ∧ (SPX S t dt dt2 (gK K p1)) ∧ (0 ≤ dt2 35 8 ∧ dt2 35 8 ≤ (t : Int)) ∧ (¬ dt2 35 2 = 0 → dt2 35 8 = (t : Int)) ∧ (dt 35 8 ≤ dt2 35 8) ∧ (dt2 35 1 = dt 35 1) ∧ (dt2 35 7 = dt 35 7)))) := by
  have hF : Fr [35] dt dt := Fr_refl
  have h7 : dt 35 7 = (t : Int) + 1 := h_p0.1
  have hk0 := TKc_k h_p0 h_p1
  have hv0 := TKc_v h_p0 h_p1
  have hs0 := TKc_s h_p0 h_p1
  refine go_toq PM22 (k := 1) (pc' := 1) (L' := [some (.inr (.inr (some 35))), some (.inl p1)]) (st' := [.inr (.inr (some 35))]) (w' := (SH, dt)) rfl ?_
  refine go_callq PM22 PM20 (Q' := _) rfl rfl rfl rfl (sp_X1_token_f L xs sio (d + 0) dt hI K V S t hz ht  (by first | assumption | exact TKc_fr h_p0 hF (by decide) (by decide) (by decide) (by omega) | omega) (by first | assumption | exact TKc_fr h_p0 hF (by decide) (by decide) (by decide) (by omega) | omega) (by first | assumption | exact TKc_fr h_p0 hF (by decide) (by decide) (by decide) (by omega) | omega)) ?_
  rintro _ _ ⟨rfl, h1⟩
  refine ⟨rfl, ?_⟩
  rcases h1 with ⟨v_h1, rfl, h1r, h1⟩
  refine go_ifq PM22 (k := 1) (p1 := 21) (p2 := 8) (L' := [some (.inr (.inr (some 35))), some (.inl p1)]) (st' := []) (w' := (SH, dt)) rfl (c_ne (a := v_h1) (b := p1) (by first | exact bnd h1r (by decide) (by decide) | exact ⟨by omega, by omega⟩) (by first | exact bnd h_p1 (by decide) (by decide) | exact ⟨by omega, by omega⟩)) (fun c3 => ?_) (fun c3 => ?_)
  · skip
    refine go_toq PM22 (k := 2) (pc' := 23) (L' := [some (.inr (.inr (some 35))), some (.inl p1)]) (st' := [.inl 1, .inr (.inr (some 35))]) (w' := (SH, dt)) rfl ?_
    refine go_callq PM22 PM21 (Q' := _) rfl rfl rfl rfl (sp_X1_fail_f L xs sio (d + 0) dt hI K V S t hz ht 1 ⟨by decide, by decide⟩ (by first | assumption | exact TKc_fr h_p0 hF (by decide) (by decide) (by decide) (by omega) | omega) (by first | assumption | exact TKc_fr h_p0 hF (by decide) (by decide) (by decide) (by omega) | omega) (by first | assumption | exact TKc_fr h_p0 hF (by decide) (by decide) (by decide) (by omega) | omega)) ?_
    rintro _ _ ⟨dt5, rfl, hI6, hF7, h4⟩
    refine ⟨rfl, ?_⟩
    have hF8 : Fr [35] dt dt5 := Fr_tr hF hF7 (by decide)
    rcases h4 with ⟨rfl, h4⟩
    obtain ⟨h4_0, h4_1, h4_2, h4_3, h4_4⟩ := h4
    have X9 : PX S t (gK K p1) gOk dt dt5 := PX_st PX_0 h4_0 (fun hl => by first | exact (by unfold gK; rw [if_neg (by omega)] : _ = ((1 : Int), (dt 35 8).toNat)).trans (gB_no (by show ¬ ((1 : Int) = 0); omega)).symm | (exfalso; omega))
    refine go_retq PM22 (k := 0) (r := none) (w1 := (SH, dt5)) rfl ?_
    exact ⟨dt5, rfl, hI6, hF8, ⟨rfl, ⟨by exact PX_e X9 (by omega), by first | exact True.intro | assumption | rfl | omega | trivial, by first | exact True.intro | assumption | rfl | omega | trivial, by first | exact True.intro | assumption | rfl | omega | trivial, by first | exact True.intro | assumption | rfl | omega | trivial, by first | exact True.intro | assumption | rfl | omega | trivial⟩⟩⟩
  · skip
    refine go_toq PM22 (k := 5) (pc' := 15) (L' := [some (.inr (.inr (some 35))), some (.inl p1)]) (st' := [.inl ((dt 35 8) + 1), .inr (.inr (some 35))]) (w' := (SH, dt)) rfl ?_
    have hI10 : InvC (u2 dt 35 8 ((dt 35 8) + 1)) := InvC_u2 hI (lo := -2147483648) (hi := 2147483647) rfl rfl rfl (by omega) (by omega)
    have hF11 : Fr [35] dt (u2 dt 35 8 ((dt 35 8) + 1)) := Fr_u2 hF (by decide)
    have w12 : (u2 dt 35 8 ((dt 35 8) + 1)) 35 1 = dt 35 1 := rfl
    have w13 : (u2 dt 35 8 ((dt 35 8) + 1)) 35 2 = dt 35 2 := rfl
    have w14 : (u2 dt 35 8 ((dt 35 8) + 1)) 35 3 = dt 35 3 := rfl
    have w15 : (u2 dt 35 8 ((dt 35 8) + 1)) 35 7 = dt 35 7 := rfl
    have w16 : (u2 dt 35 8 ((dt 35 8) + 1)) 35 8 = (dt 35 8) + 1 := rfl
    have lv18 := KLIVE hz (D := dt) (by omega) (by omega) (by omega)
    have X17 : PX S t (gK K p1) gOk dt (u2 dt 35 8 ((dt 35 8) + 1)) := PX_st PX_0 (SPX_inc hz (by omega) (by omega) (by omega) (by omega) (by omega)) (fun hl => by first | (show (gK K p1) (dt 35 8).toNat = gOk ((dt 35 8).toNat + 1); unfold gK; rw [if_pos (by omega)]; rfl) | (exfalso; omega))
    refine go_smpq PM22 (L' := [some (.inr (.inr (some 35))), some (.inl p1)]) (st' := []) (w' := (SH, (u2 dt 35 8 ((dt 35 8) + 1)))) rfl rfl (s_pf rfl rfl rfl rfl ⟨by omega, by omega⟩) ?_
    refine go_retq PM22 (k := 1) (r := none) (w1 := (SH, (u2 dt 35 8 ((dt 35 8) + 1)))) rfl ?_
    exact ⟨(u2 dt 35 8 ((dt 35 8) + 1)), rfl, hI10, hF11, ⟨rfl, ⟨by exact PX_e X17 (by omega), by first | exact True.intro | assumption | rfl | omega | trivial, by first | exact True.intro | assumption | rfl | omega | trivial, by first | exact True.intro | assumption | rfl | omega | trivial, by first | exact True.intro | assumption | rfl | omega | trivial, by first | exact True.intro | assumption | rfl | omega | trivial⟩⟩⟩
theorem sp_X1_emit_f (L : Nat) (xs : Nat → Int32) (sio : Option Nat) (d : Nat) (dt : Nat → Nat → Int) (hI : InvC dt)  (p1 : Int) (h_p1 : (-2147483648) ≤ p1 ∧ p1 ≤ 2147483647)  : GO (am_XX L xs sio) (d) 30 0 [some (.inr (.inr (some 35))), some (.inl p1)] [] (SH, dt) (fun r w2 => ∃ dt2 : Nat → Nat → Int, w2 = (SH, dt2) ∧ InvC dt2 ∧ Fr [35, 42] dt dt2 ∧ ((r = none ∧ (dt2 35 1 = dt 35 1) ∧ (dt2 35 2 = dt 35 2) ∧ (dt2 35 3 = dt 35 3) ∧ (dt2 35 7 = dt 35 7) ∧ (dt2 35 8 = dt 35 8)))) := by
  have hF : Fr [35, 42] dt dt := Fr_refl
  have r1 : 0 ≤ dt 35 12 ∧ dt 35 12 ≤ 500 := InvC_get hI 35 12 rfl rfl
  refine go_ifq PM30 (k := 5) (p1 := 32) (p2 := 12) (L' := [some (.inr (.inr (some 35))), some (.inl p1)]) (st' := []) (w' := (SH, dt)) rfl (c_ge (a := dt 35 12) (b := 500) (by first | exact bnd r1 (by decide) (by decide) | exact ⟨by omega, by omega⟩) ⟨by decide, by decide⟩) (fun c2 => ?_) (fun c2 => ?_)
  · skip
    refine go_retq PM30 (k := 0) (r := none) (w1 := (SH, dt)) rfl ?_
    exact ⟨dt, rfl, hI, hF, ⟨rfl, ⟨by first | exact True.intro | assumption | rfl | omega | trivial, by first | exact True.intro | assumption | rfl | omega | trivial, by first | exact True.intro | assumption | rfl | omega | trivial, by first | exact True.intro | assumption | rfl | omega | trivial, by first | exact True.intro | assumption | rfl | omega | trivial⟩⟩⟩
  · skip
    refine go_toq PM30 (k := 5) (pc' := 21) (L' := [some (.inr (.inr (some 35))), some (.inl p1)]) (st' := [.inl p1, .inl (dt 35 12), .inr (.inr (some 42))]) (w' := (SH, dt)) rfl ?_
    have hI3 : InvC (u2 dt 42 ((dt 35 12).toNat) p1) := InvC_u2 hI (lo := -2147483648) (hi := 2147483647) rfl rfl rfl (by first | exact bnd1 h_p1 (by decide) | omega) (by first | exact bnd2 h_p1 (by decide) | omega)
    have hF4 : Fr [35, 42] dt (u2 dt 42 ((dt 35 12).toNat) p1) := Fr_u2 hF (by decide)
    have w5 : (u2 dt 42 ((dt 35 12).toNat) p1) 35 1 = dt 35 1 := rfl
    have w6 : (u2 dt 42 ((dt 35 12).toNat) p1) 35 2 = dt 35 2 := rfl
    have w7 : (u2 dt 42 ((dt 35 12).toNat) p1) 35 3 = dt 35 3 := rfl
    have w8 : (u2 dt 42 ((dt 35 12).toNat) p1) 35 7 = dt 35 7 := rfl
    have w9 : (u2 dt 42 ((dt 35 12).toNat) p1) 35 8 = dt 35 8 := rfl
    refine go_smpq PM30 (L' := [some (.inr (.inr (some 35))), some (.inl p1)]) (st' := []) (w' := (SH, (u2 dt 42 ((dt 35 12).toNat) p1))) rfl rfl (s_iast (n := 500) rfl (by first | exact bndc r1 c2 (by decide) (by decide) | exact bndx r1 (by decide) (by decide) | exact ⟨by omega, by omega⟩) (by first | exact bnd h_p1 (by decide) (by decide) | exact ⟨by omega, by omega⟩)) ?_
    refine go_toq PM30 (k := 5) (pc' := 29) (L' := [some (.inr (.inr (some 35))), some (.inl p1)]) (st' := [.inl ((dt 35 12) + 1), .inr (.inr (some 35))]) (w' := (SH, (u2 dt 42 ((dt 35 12).toNat) p1))) rfl ?_
    have hI10 : InvC (u2 (u2 dt 42 ((dt 35 12).toNat) p1) 35 12 ((dt 35 12) + 1)) := InvC_u2 hI3 (lo := 0) (hi := 500) rfl rfl rfl (by omega) (by omega)
    have hF11 : Fr [35, 42] dt (u2 (u2 dt 42 ((dt 35 12).toNat) p1) 35 12 ((dt 35 12) + 1)) := Fr_u2 hF4 (by decide)
    have w12 : (u2 (u2 dt 42 ((dt 35 12).toNat) p1) 35 12 ((dt 35 12) + 1)) 35 1 = (u2 dt 42 ((dt 35 12).toNat) p1) 35 1 := rfl
    have w13 : (u2 (u2 dt 42 ((dt 35 12).toNat) p1) 35 12 ((dt 35 12) + 1)) 35 2 = (u2 dt 42 ((dt 35 12).toNat) p1) 35 2 := rfl
    have w14 : (u2 (u2 dt 42 ((dt 35 12).toNat) p1) 35 12 ((dt 35 12) + 1)) 35 3 = (u2 dt 42 ((dt 35 12).toNat) p1) 35 3 := rfl
    have w15 : (u2 (u2 dt 42 ((dt 35 12).toNat) p1) 35 12 ((dt 35 12) + 1)) 35 7 = (u2 dt 42 ((dt 35 12).toNat) p1) 35 7 := rfl
    have w16 : (u2 (u2 dt 42 ((dt 35 12).toNat) p1) 35 12 ((dt 35 12) + 1)) 35 8 = (u2 dt 42 ((dt 35 12).toNat) p1) 35 8 := rfl
    refine go_smpq PM30 (L' := [some (.inr (.inr (some 35))), some (.inl p1)]) (st' := []) (w' := (SH, (u2 (u2 dt 42 ((dt 35 12).toNat) p1) 35 12 ((dt 35 12) + 1)))) rfl rfl (s_pf rfl rfl rfl rfl (by first | exact bndp r1 (by decide) (by decide) | exact ⟨by omega, by omega⟩)) ?_
    refine go_retq PM30 (k := 0) (r := none) (w1 := (SH, (u2 (u2 dt 42 ((dt 35 12).toNat) p1) 35 12 ((dt 35 12) + 1)))) rfl ?_
    exact ⟨(u2 (u2 dt 42 ((dt 35 12).toNat) p1) 35 12 ((dt 35 12) + 1)), rfl, hI10, hF11, ⟨rfl, ⟨by first | exact True.intro | assumption | rfl | omega | trivial, by first | exact True.intro | assumption | rfl | omega | trivial, by first | exact True.intro | assumption | rfl | omega | trivial, by first | exact True.intro | assumption | rfl | omega | trivial, by first | exact True.intro | assumption | rfl | omega | trivial⟩⟩⟩
theorem sp_X1_oneOf_f (L : Nat) (xs : Nat → Int32) (sio : Option Nat) (d : Nat) (dt : Nat → Nat → Int) (hI : InvC dt) (K V S : Nat → Int) (t : Nat) (hz : KZ K t) (ht : t ≤ 500) (p1 : Int) (h_p1 : 1 ≤ p1 ∧ p1 ≤ 8) (h_p0 : TKc K V S t dt) (h_p1 : 0 ≤ dt 35 8 ∧ dt 35 8 ≤ (t : Int)) (h_p2 : ¬ dt 35 2 = 0 → dt 35 8 = (t : Int)) : GO (am_XX L xs sio) (d + 1) 24 0 [some (.inr (.inr (some 35))), some (.inl p1), none] [] (SH, dt) (fun r w2 => ∃ dt2 : Nat → Nat → Int, w2 = (SH, dt2) ∧ InvC dt2 ∧ Fr [35] dt dt2 ∧ ((∃ v : Int, r = some (.inl v) ∧ (0 ≤ v ∧ v ≤ 9999) ∧ (SPX S t dt dt2 (gA K V (p1 - 1))) ∧ (0 ≤ dt2 35 8 ∧ dt2 35 8 ≤ (t : Int)) ∧ (¬ dt2 35 2 = 0 → dt2 35 8 = (t : Int)) ∧ (dt 35 8 ≤ dt2 35 8) ∧ (dt2 35 2 = 0 → v = V (dt 35 8).toNat) ∧ (v ≤ p1 - 1) ∧ (dt2 35 1 = dt 35 1) ∧ (dt2 35 7 = dt 35 7)))) := by
  have hF : Fr [35] dt dt := Fr_refl
  have h7 : dt 35 7 = (t : Int) + 1 := h_p0.1
  have hk0 := TKc_k h_p0 h_p1
  have hv0 := TKc_v h_p0 h_p1
  have hs0 := TKc_s h_p0 h_p1
  refine go_toq PM24 (k := 1) (pc' := 1) (L' := [some (.inr (.inr (some 35))), some (.inl p1), none]) (st' := [.inr (.inr (some 35))]) (w' := (SH, dt)) rfl ?_
  refine go_callq PM24 PM23 (Q' := _) rfl rfl rfl rfl (sp_X1_nextNumber_f L xs sio (d + 0) dt hI K V S t hz ht  (by first | assumption | exact TKc_fr h_p0 hF (by decide) (by decide) (by decide) (by omega) | omega) (by first | assumption | exact TKc_fr h_p0 hF (by decide) (by decide) (by decide) (by omega) | omega) (by first | assumption | exact TKc_fr h_p0 hF (by decide) (by decide) (by decide) (by omega) | omega)) ?_
  rintro _ _ ⟨rfl, h1⟩
  refine ⟨rfl, ?_⟩
  rcases h1 with ⟨v_h1, rfl, h1r, h1⟩ | ⟨rfl, h1⟩
  · skip
    obtain ⟨h1_0, h1_1⟩ := h1
    refine go_ifq PM24 (k := 3) (p1 := 15) (p2 := 10) (L' := [some (.inr (.inr (some 35))), some (.inl p1), some (.inl v_h1)]) (st' := []) (w' := (SH, dt)) rfl (c_eq (a := v_h1) (b := (-1)) (by first | exact bnd h1r (by decide) (by decide) | exact ⟨by omega, by omega⟩) ⟨by decide, by decide⟩) (fun c3 => ?_) (fun c3 => ?_)
    · exfalso; omega
    · skip
      refine go_ifq PM24 (k := 2) (p1 := 31) (p2 := 15) (L' := [some (.inr (.inr (some 35))), some (.inl p1), some (.inl v_h1)]) (st' := []) (w' := (SH, dt)) rfl (c_lt (a := v_h1) (b := p1) (by first | exact bnd h1r (by decide) (by decide) | exact ⟨by omega, by omega⟩) (by first | exact bnd h_p1 (by decide) (by decide) | exact ⟨by omega, by omega⟩)) (fun c4 => ?_) (fun c4 => ?_)
      · skip
        refine go_toq PM24 (k := 5) (pc' := 38) (L' := [some (.inr (.inr (some 35))), some (.inl p1), some (.inl v_h1)]) (st' := [.inl ((dt 35 8) + 1), .inr (.inr (some 35))]) (w' := (SH, dt)) rfl ?_
        have hI5 : InvC (u2 dt 35 8 ((dt 35 8) + 1)) := InvC_u2 hI (lo := -2147483648) (hi := 2147483647) rfl rfl rfl (by omega) (by omega)
        have hF6 : Fr [35] dt (u2 dt 35 8 ((dt 35 8) + 1)) := Fr_u2 hF (by decide)
        have w7 : (u2 dt 35 8 ((dt 35 8) + 1)) 35 1 = dt 35 1 := rfl
        have w8 : (u2 dt 35 8 ((dt 35 8) + 1)) 35 2 = dt 35 2 := rfl
        have w9 : (u2 dt 35 8 ((dt 35 8) + 1)) 35 3 = dt 35 3 := rfl
        have w10 : (u2 dt 35 8 ((dt 35 8) + 1)) 35 7 = dt 35 7 := rfl
        have w11 : (u2 dt 35 8 ((dt 35 8) + 1)) 35 8 = (dt 35 8) + 1 := rfl
        have lv13 := KLIVE hz (D := dt) (by omega) (by omega) (by omega)
        have X12 : PX S t (gA K V (p1 - 1)) gOk dt (u2 dt 35 8 ((dt 35 8) + 1)) := PX_st PX_0 (SPX_inc hz (by omega) (by omega) (by omega) (by omega) (by omega)) (fun hl => by first | (show (gA K V (p1 - 1)) (dt 35 8).toNat = gOk ((dt 35 8).toNat + 1); unfold gA; rw [if_pos (by omega), if_pos (by omega)]; rfl) | (exfalso; omega))
        refine go_smpq PM24 (L' := [some (.inr (.inr (some 35))), some (.inl p1), some (.inl v_h1)]) (st' := []) (w' := (SH, (u2 dt 35 8 ((dt 35 8) + 1)))) rfl rfl (s_pf rfl rfl rfl rfl ⟨by omega, by omega⟩) ?_
        refine go_retq PM24 (k := 1) (r := some (.inl v_h1)) (w1 := (SH, (u2 dt 35 8 ((dt 35 8) + 1)))) rfl ?_
        exact ⟨(u2 dt 35 8 ((dt 35 8) + 1)), rfl, hI5, hF6, ⟨_, rfl, (by first | exact bnd h1r (by decide) (by decide) | exact ⟨by omega, by omega⟩), ⟨by exact PX_e X12 (by omega), by first | exact True.intro | assumption | rfl | omega | trivial, by first | exact True.intro | assumption | rfl | omega | trivial, by first | exact True.intro | assumption | rfl | omega | trivial, by first | exact True.intro | assumption | rfl | omega | trivial, by first | exact True.intro | assumption | rfl | omega | trivial, by first | exact True.intro | assumption | rfl | omega | trivial, by first | exact True.intro | assumption | rfl | omega | trivial⟩⟩⟩
      · skip
        refine go_ifq PM24 (k := 3) (p1 := 25) (p2 := 21) (L' := [some (.inr (.inr (some 35))), some (.inl p1), some (.inl v_h1)]) (st' := [.inr (.inr (some 35))]) (w' := (SH, dt)) rfl (c_ne (a := v_h1) (b := (-1)) (by first | exact bnd h1r (by decide) (by decide) | exact ⟨by omega, by omega⟩) ⟨by decide, by decide⟩) (fun c14 => ?_) (fun c14 => ?_)
        · skip
          refine go_toq PM24 (k := 1) (pc' := 26) (L' := [some (.inr (.inr (some 35))), some (.inl p1), some (.inl v_h1)]) (st' := [.inl 2, .inr (.inr (some 35))]) (w' := (SH, dt)) rfl ?_
          refine go_callq PM24 PM21 (Q' := _) rfl rfl rfl rfl (sp_X1_fail_f L xs sio (d + 0) dt hI K V S t hz ht 2 ⟨by decide, by decide⟩ (by first | assumption | exact TKc_fr h_p0 hF (by decide) (by decide) (by decide) (by omega) | omega) (by first | assumption | exact TKc_fr h_p0 hF (by decide) (by decide) (by decide) (by omega) | omega) (by first | assumption | exact TKc_fr h_p0 hF (by decide) (by decide) (by decide) (by omega) | omega)) ?_
          rintro _ _ ⟨dt16, rfl, hI17, hF18, h15⟩
          refine ⟨rfl, ?_⟩
          have hF19 : Fr [35] dt dt16 := Fr_tr hF hF18 (by decide)
          rcases h15 with ⟨rfl, h15⟩
          obtain ⟨h15_0, h15_1, h15_2, h15_3, h15_4⟩ := h15
          have X20 : PX S t (gA K V (p1 - 1)) gOk dt dt16 := PX_st PX_0 h15_0 (fun hl => by first | exact (by unfold gA; rw [if_pos (by omega), if_neg (by omega)] : _ = ((2 : Int), (dt 35 8).toNat)).trans (gB_no (by show ¬ ((2 : Int) = 0); omega)).symm | (exfalso; omega))
          refine go_retq PM24 (k := 1) (r := some (.inl 0)) (w1 := (SH, dt16)) rfl ?_
          exact ⟨dt16, rfl, hI17, hF19, ⟨_, rfl, ⟨by decide, by decide⟩, ⟨by exact PX_e X20 (by omega), by first | exact True.intro | assumption | rfl | omega | trivial, by first | exact True.intro | assumption | rfl | omega | trivial, by first | exact True.intro | assumption | rfl | omega | trivial, by first | exact True.intro | assumption | rfl | omega | trivial, by first | exact True.intro | assumption | rfl | omega | trivial, by first | exact True.intro | assumption | rfl | omega | trivial, by first | exact True.intro | assumption | rfl | omega | trivial⟩⟩⟩
        · exfalso; omega
  · skip
    refine go_toq PM24 (k := 10) (pc' := 26) (L' := [some (.inr (.inr (some 35))), some (.inl p1), some (.inl (-1))]) (st' := [.inl 1, .inr (.inr (some 35))]) (w' := (SH, dt)) rfl ?_
    refine go_callq PM24 PM21 (Q' := _) rfl rfl rfl rfl (sp_X1_fail_f L xs sio (d + 0) dt hI K V S t hz ht 1 ⟨by decide, by decide⟩ (by first | assumption | exact TKc_fr h_p0 hF (by decide) (by decide) (by decide) (by omega) | omega) (by first | assumption | exact TKc_fr h_p0 hF (by decide) (by decide) (by decide) (by omega) | omega) (by first | assumption | exact TKc_fr h_p0 hF (by decide) (by decide) (by decide) (by omega) | omega)) ?_
    rintro _ _ ⟨dt23, rfl, hI24, hF25, h22⟩
    refine ⟨rfl, ?_⟩
    have hF26 : Fr [35] dt dt23 := Fr_tr hF hF25 (by decide)
    rcases h22 with ⟨rfl, h22⟩
    obtain ⟨h22_0, h22_1, h22_2, h22_3, h22_4⟩ := h22
    have X27 : PX S t (gA K V (p1 - 1)) gOk dt dt23 := PX_st PX_0 h22_0 (fun hl => by first | exact (by unfold gA; rw [if_neg (by omega)] : _ = ((1 : Int), (dt 35 8).toNat)).trans (gB_no (by show ¬ ((1 : Int) = 0); omega)).symm | (exfalso; omega))
    refine go_retq PM24 (k := 1) (r := some (.inl 0)) (w1 := (SH, dt23)) rfl ?_
    exact ⟨dt23, rfl, hI24, hF26, ⟨_, rfl, ⟨by decide, by decide⟩, ⟨by exact PX_e X27 (by omega), by first | exact True.intro | assumption | rfl | omega | trivial, by first | exact True.intro | assumption | rfl | omega | trivial, by first | exact True.intro | assumption | rfl | omega | trivial, by first | exact True.intro | assumption | rfl | omega | trivial, by first | exact True.intro | assumption | rfl | omega | trivial, by first | exact True.intro | assumption | rfl | omega | trivial, by first | exact True.intro | assumption | rfl | omega | trivial⟩⟩⟩
theorem sp_X1_readOther_f (L : Nat) (xs : Nat → Int32) (sio : Option Nat) (d : Nat) (dt : Nat → Nat → Int) (hI : InvC dt) (K V S : Nat → Int) (t : Nat) (hz : KZ K t) (ht : t ≤ 500) (p1 : Int) (h_p1 : 0 ≤ p1 ∧ p1 ≤ 9999) (h_p0 : TKc K V S t dt) (h_p1 : 0 ≤ dt 35 8 ∧ dt 35 8 ≤ (t : Int)) (h_p2 : ¬ dt 35 2 = 0 → dt 35 8 = (t : Int)) : GO (am_XX L xs sio) (d + 2) 27 0 [some (.inr (.inr (some 35))), some (.inl p1)] [] (SH, dt) (fun r w2 => ∃ dt2 : Nat → Nat → Int, w2 = (SH, dt2) ∧ InvC dt2 ∧ Fr [35] dt dt2 ∧ ((∃ v : Int, r = some (.inl v) ∧ (0 ≤ v ∧ v ≤ 9999) ∧ (SPX S t dt dt2 (gOt K V p1)) ∧ (0 ≤ dt2 35 8 ∧ dt2 35 8 ≤ (t : Int)) ∧ (¬ dt2 35 2 = 0 → dt2 35 8 = (t : Int)) ∧ (dt 35 8 ≤ dt2 35 8) ∧ (v ≤ 3) ∧ (dt2 35 2 = 0 → v = V (dt 35 8).toNat) ∧ (dt2 35 2 = 0 → ¬ v = p1) ∧ (dt2 35 1 = dt 35 1) ∧ (dt2 35 7 = dt 35 7)))) := by
  have hF : Fr [35] dt dt := Fr_refl
  have h7 : dt 35 7 = (t : Int) + 1 := h_p0.1
  have hk0 := TKc_k h_p0 h_p1
  have hv0 := TKc_v h_p0 h_p1
  have hs0 := TKc_s h_p0 h_p1
  refine go_toq PM27 (k := 1) (pc' := 1) (L' := [some (.inr (.inr (some 35))), some (.inl p1)]) (st' := [.inr (.inr (some 35))]) (w' := (SH, dt)) rfl ?_
  refine go_callq PM27 PM23 (Q' := _) rfl rfl rfl rfl (sp_X1_nextNumber_f L xs sio (d + 1) dt hI K V S t hz ht  (by first | assumption | exact TKc_fr h_p0 hF (by decide) (by decide) (by decide) (by omega) | omega) (by first | assumption | exact TKc_fr h_p0 hF (by decide) (by decide) (by decide) (by omega) | omega) (by first | assumption | exact TKc_fr h_p0 hF (by decide) (by decide) (by decide) (by omega) | omega)) ?_
  rintro _ _ ⟨rfl, h1⟩
  refine ⟨rfl, ?_⟩
  rcases h1 with ⟨v_h1, rfl, h1r, h1⟩ | ⟨rfl, h1⟩
  · skip
    obtain ⟨h1_0, h1_1⟩ := h1
    refine go_ifq PM27 (k := 1) (p1 := 15) (p2 := 8) (L' := [some (.inr (.inr (some 35))), some (.inl p1)]) (st' := []) (w' := (SH, dt)) rfl (c_ne (a := v_h1) (b := p1) (by first | exact bnd h1r (by decide) (by decide) | exact ⟨by omega, by omega⟩) (by first | exact bnd h_p1 (by decide) (by decide) | exact ⟨by omega, by omega⟩)) (fun c3 => ?_) (fun c3 => ?_)
    · skip
      refine go_toq PM27 (k := 2) (pc' := 17) (L' := [some (.inr (.inr (some 35))), some (.inl p1)]) (st' := [.inl 4, .inr (.inr (some 35))]) (w' := (SH, dt)) rfl ?_
      refine go_callq PM27 PM24 (Q' := _) rfl rfl rfl rfl (sp_X1_oneOf_f L xs sio (d + 0) dt hI K V S t hz ht 4 ⟨by decide, by decide⟩ (by first | assumption | exact TKc_fr h_p0 hF (by decide) (by decide) (by decide) (by omega) | omega) (by first | assumption | exact TKc_fr h_p0 hF (by decide) (by decide) (by decide) (by omega) | omega) (by first | assumption | exact TKc_fr h_p0 hF (by decide) (by decide) (by decide) (by omega) | omega)) ?_
      rintro _ _ ⟨dt5, rfl, hI6, hF7, h4⟩
      refine ⟨rfl, ?_⟩
      have hF8 : Fr [35] dt dt5 := Fr_tr hF hF7 (by decide)
      rcases h4 with ⟨v_h4, rfl, h4r, h4⟩
      obtain ⟨h4_0, h4_1, h4_2, h4_3, h4_4, h4_5, h4_6, h4_7⟩ := h4
      have X9 : PX S t (gOt K V p1) gOk dt dt5 := PX_st PX_0 h4_0 (fun hl => by first | (rw [gB_id]; unfold gOt; rw [if_neg (by omega)]; rfl) | (exfalso; omega))
      refine go_retq PM27 (k := 0) (r := some (.inl v_h4)) (w1 := (SH, dt5)) rfl ?_
      exact ⟨dt5, rfl, hI6, hF8, ⟨_, rfl, (by first | exact bnd h4r (by decide) (by decide) | exact ⟨by omega, by omega⟩), ⟨by exact PX_e X9 (by omega), by first | exact True.intro | assumption | rfl | omega | trivial, by first | exact True.intro | assumption | rfl | omega | trivial, by first | exact True.intro | assumption | rfl | omega | trivial, by first | exact True.intro | assumption | rfl | omega | trivial, by first | omega | (intro z_; have y_ := h4_4 z_; omega), by first | omega | (intro z_; have y_ := h4_4 z_; have w_ := gA_k (SPX_ok h4_0 (by omega) z_).2.1; omega), by first | exact True.intro | assumption | rfl | omega | trivial, by first | exact True.intro | assumption | rfl | omega | trivial⟩⟩⟩
    · skip
      refine go_toq PM27 (k := 2) (pc' := 10) (L' := [some (.inr (.inr (some 35))), some (.inl p1)]) (st' := [.inl 2, .inr (.inr (some 35))]) (w' := (SH, dt)) rfl ?_
      refine go_callq PM27 PM21 (Q' := _) rfl rfl rfl rfl (sp_X1_fail_f L xs sio (d + 1) dt hI K V S t hz ht 2 ⟨by decide, by decide⟩ (by first | assumption | exact TKc_fr h_p0 hF (by decide) (by decide) (by decide) (by omega) | omega) (by first | assumption | exact TKc_fr h_p0 hF (by decide) (by decide) (by decide) (by omega) | omega) (by first | assumption | exact TKc_fr h_p0 hF (by decide) (by decide) (by decide) (by omega) | omega)) ?_
      rintro _ _ ⟨dt11, rfl, hI12, hF13, h10⟩
      refine ⟨rfl, ?_⟩
      have hF14 : Fr [35] dt dt11 := Fr_tr hF hF13 (by decide)
      rcases h10 with ⟨rfl, h10⟩
      obtain ⟨h10_0, h10_1, h10_2, h10_3, h10_4⟩ := h10
      have X15 : PX S t (gOt K V p1) gOk dt dt11 := PX_st PX_0 h10_0 (fun hl => by first | exact (by unfold gOt; rw [if_pos (by omega)] : _ = ((2 : Int), (dt 35 8).toNat)).trans (gB_no (by show ¬ ((2 : Int) = 0); omega)).symm | (exfalso; omega))
      refine go_retq PM27 (k := 1) (r := some (.inl 0)) (w1 := (SH, dt11)) rfl ?_
      exact ⟨dt11, rfl, hI12, hF14, ⟨_, rfl, ⟨by decide, by decide⟩, ⟨by exact PX_e X15 (by omega), by first | exact True.intro | assumption | rfl | omega | trivial, by first | exact True.intro | assumption | rfl | omega | trivial, by first | exact True.intro | assumption | rfl | omega | trivial, by first | exact True.intro | assumption | rfl | omega | trivial, by first | omega | (intro z_; have y_ := hI z_; omega), by first | omega | (intro z_; have y_ := hI z_; have w_ := gA_k (SPX_ok hI (by omega) z_).2.1; omega), by first | exact True.intro | assumption | rfl | omega | trivial, by first | exact True.intro | assumption | rfl | omega | trivial⟩⟩⟩
  · skip
    refine go_ifq PM27 (k := 1) (p1 := 15) (p2 := 8) (L' := [some (.inr (.inr (some 35))), some (.inl p1)]) (st' := []) (w' := (SH, dt)) rfl (c_ne (a := (-1)) (b := p1) ⟨by decide, by decide⟩ (by first | exact bnd h_p1 (by decide) (by decide) | exact ⟨by omega, by omega⟩)) (fun c17 => ?_) (fun c17 => ?_)
    · skip
      refine go_toq PM27 (k := 2) (pc' := 17) (L' := [some (.inr (.inr (some 35))), some (.inl p1)]) (st' := [.inl 4, .inr (.inr (some 35))]) (w' := (SH, dt)) rfl ?_
      refine go_callq PM27 PM24 (Q' := _) rfl rfl rfl rfl (sp_X1_oneOf_f L xs sio (d + 0) dt hI K V S t hz ht 4 ⟨by decide, by decide⟩ (by first | assumption | exact TKc_fr h_p0 hF (by decide) (by decide) (by decide) (by omega) | omega) (by first | assumption | exact TKc_fr h_p0 hF (by decide) (by decide) (by decide) (by omega) | omega) (by first | assumption | exact TKc_fr h_p0 hF (by decide) (by decide) (by decide) (by omega) | omega)) ?_
      rintro _ _ ⟨dt19, rfl, hI20, hF21, h18⟩
      refine ⟨rfl, ?_⟩
      have hF22 : Fr [35] dt dt19 := Fr_tr hF hF21 (by decide)
      rcases h18 with ⟨v_h18, rfl, h18r, h18⟩
      obtain ⟨h18_0, h18_1, h18_2, h18_3, h18_4, h18_5, h18_6, h18_7⟩ := h18
      have X23 : PX S t (gOt K V p1) gOk dt dt19 := PX_st PX_0 h18_0 (fun hl => by first | (rw [gB_id]; unfold gOt; rw [if_neg (by omega)]; rfl) | (exfalso; omega))
      refine go_retq PM27 (k := 0) (r := some (.inl v_h18)) (w1 := (SH, dt19)) rfl ?_
      exact ⟨dt19, rfl, hI20, hF22, ⟨_, rfl, (by first | exact bnd h18r (by decide) (by decide) | exact ⟨by omega, by omega⟩), ⟨by exact PX_e X23 (by omega), by first | exact True.intro | assumption | rfl | omega | trivial, by first | exact True.intro | assumption | rfl | omega | trivial, by first | exact True.intro | assumption | rfl | omega | trivial, by first | exact True.intro | assumption | rfl | omega | trivial, by first | omega | (intro z_; have y_ := h18_4 z_; omega), by first | omega | (intro z_; have y_ := h18_4 z_; have w_ := gA_k (SPX_ok h18_0 (by omega) z_).2.1; omega), by first | exact True.intro | assumption | rfl | omega | trivial, by first | exact True.intro | assumption | rfl | omega | trivial⟩⟩⟩
    · exfalso; omega
set_option maxHeartbeats 8000000 in
theorem sp_X1_readAct_f (L : Nat) (xs : Nat → Int32) (sio : Option Nat) (d : Nat) (dt : Nat → Nat → Int) (hI : InvC dt) (K V S : Nat → Int) (t : Nat) (hz : KZ K t) (ht : t ≤ 500) (p1 : Int) (h_p1 : 0 ≤ p1 ∧ p1 ≤ 8) (h_p0 : TKc K V S t dt) (h_p1 : 0 ≤ dt 35 8 ∧ dt 35 8 ≤ (t : Int)) (h_p2 : ¬ dt 35 2 = 0 → dt 35 8 = (t : Int)) : GO (am_XX L xs sio) (d + 3) 26 0 [some (.inr (.inr (some 35))), some (.inl p1), none, none, none] [] (SH, dt) (fun r w2 => ∃ dt2 : Nat → Nat → Int, w2 = (SH, dt2) ∧ InvC dt2 ∧ Fr [35] dt dt2 ∧ ((∃ v : Int, r = some (.inl v) ∧ ((-2147483648) ≤ v ∧ v ≤ 2147483647) ∧ (SPX S t dt dt2 (gAc K V p1)) ∧ (0 ≤ dt2 35 8 ∧ dt2 35 8 ≤ (t : Int)) ∧ (¬ dt2 35 2 = 0 → dt2 35 8 = (t : Int)) ∧ (dt 35 8 ≤ dt2 35 8) ∧ (dt2 35 2 = 0 → AE v p1 V (dt 35 8).toNat) ∧ (dt2 35 1 = dt 35 1) ∧ (dt2 35 7 = dt 35 7)))) := by
  have hF : Fr [35] dt dt := Fr_refl
  have h7 : dt 35 7 = (t : Int) + 1 := h_p0.1
  have hk0 := TKc_k h_p0 h_p1
  have hv0 := TKc_v h_p0 h_p1
  have hs0 := TKc_s h_p0 h_p1
  refine go_ifq PM26 (k := 2) (p1 := 15) (p2 := 5) (L' := [some (.inr (.inr (some 35))), some (.inl p1), none, none, none]) (st' := []) (w' := (SH, dt)) rfl (c_eq (a := p1) (b := 2) (by first | exact bnd h_p1 (by decide) (by decide) | exact ⟨by omega, by omega⟩) ⟨by decide, by decide⟩) (fun c1 => ?_) (fun c1 => ?_)
  · skip
    refine go_ifq PM26 (k := 7) (p1 := 60) (p2 := 29) (L' := [some (.inr (.inr (some 35))), some (.inl p1), some (.inl 1), some (.inl p1), none]) (st' := []) (w' := (SH, dt)) rfl (c_eq (a := p1) (b := 8) (by first | exact bnd h_p1 (by decide) (by decide) | exact ⟨by omega, by omega⟩) ⟨by decide, by decide⟩) (fun c2 => ?_) (fun c2 => ?_)
    · exfalso; omega
    · skip
      refine go_toq PM26 (k := 2) (pc' := 31) (L' := [some (.inr (.inr (some 35))), some (.inl p1), some (.inl 1), some (.inl p1), none]) (st' := [.inl 4, .inr (.inr (some 35))]) (w' := (SH, dt)) rfl ?_
      refine go_callq PM26 PM24 (Q' := _) rfl rfl rfl rfl (sp_X1_oneOf_f L xs sio (d + 1) dt hI K V S t hz ht 4 ⟨by decide, by decide⟩ (by first | assumption | exact TKc_fr h_p0 hF (by decide) (by decide) (by decide) (by omega) | omega) (by first | assumption | exact TKc_fr h_p0 hF (by decide) (by decide) (by decide) (by omega) | omega) (by first | assumption | exact TKc_fr h_p0 hF (by decide) (by decide) (by decide) (by omega) | omega)) ?_
      rintro _ _ ⟨dt4, rfl, hI5, hF6, h3⟩
      refine ⟨rfl, ?_⟩
      have hF7 : Fr [35] dt dt4 := Fr_tr hF hF6 (by decide)
      rcases h3 with ⟨v_h3, rfl, h3r, h3⟩
      obtain ⟨h3_0, h3_1, h3_2, h3_3, h3_4, h3_5, h3_6, h3_7⟩ := h3
      have ha1_ := SPX_at h3_0 (by omega) (by omega) (fun _ z_ => gA_at z_)
      have hv1_ : dt4 35 2 = 0 → v_h3 = V (dt 35 8).toNat := h3_4
      have X8 : PX S t (gAc K V p1) (gA0 K V p1 (V (dt 35 8).toNat)) dt dt4 := PX_st PX_0 h3_0 (fun hl => by first | exact gAc_n (by omega) | (exfalso; omega))
      have r9 : -2147483648 ≤ am_shl v_h3 4 ∧ am_shl v_h3 4 ≤ 2147483647 := am_shl_R
      have r10 : -2147483648 ≤ am_or p1 (am_shl v_h3 4) ∧ am_or p1 (am_shl v_h3 4) ≤ 2147483647 := am_or_R
      refine go_ifq PM26 (k := 9) (p1 := 60) (p2 := 48) (L' := [some (.inr (.inr (some 35))), some (.inl p1), some (.inl 1), some (.inl (am_or p1 (am_shl v_h3 4))), some (.inl v_h3)]) (st' := []) (w' := (SH, dt4)) rfl (c_ne (a := p1) (b := 4) (by first | exact bnd h_p1 (by decide) (by decide) | exact ⟨by omega, by omega⟩) ⟨by decide, by decide⟩) (fun c11 => ?_) (fun c11 => ?_)
      · skip
        refine go_toq PM26 (k := 5) (pc' := 67) (L' := [some (.inr (.inr (some 35))), some (.inl p1), some (.inl 1), some (.inl (am_or p1 (am_shl v_h3 4))), some (.inl v_h3)]) (st' := [.inl 3, .inr (.inr (some 35)), .inl (am_or p1 (am_shl v_h3 4))]) (w' := (SH, dt4)) rfl ?_
        refine go_callq PM26 PM24 (Q' := _) rfl rfl rfl rfl (sp_X1_oneOf_f L xs sio (d + 1) dt4 hI5 K V S t hz ht 3 ⟨by decide, by decide⟩ (by first | assumption | exact TKc_fr h_p0 hF7 (by decide) (by decide) (by decide) (by omega) | omega) (by first | assumption | exact TKc_fr h_p0 hF7 (by decide) (by decide) (by decide) (by omega) | omega) (by first | assumption | exact TKc_fr h_p0 hF7 (by decide) (by decide) (by decide) (by omega) | omega)) ?_
        rintro _ _ ⟨dt13, rfl, hI14, hF15, h12⟩
        refine ⟨rfl, ?_⟩
        have hF16 : Fr [35] dt dt13 := Fr_tr hF7 hF15 (by decide)
        rcases h12 with ⟨v_h12, rfl, h12r, h12⟩
        obtain ⟨h12_0, h12_1, h12_2, h12_3, h12_4, h12_5, h12_6, h12_7⟩ := h12
        have ha2_ := SPX_at h12_0 (by omega) (by omega) (fun _ z_ => gA_at z_)
        have hv2_ : dt13 35 2 = 0 → v_h12 = V (dt4 35 8).toNat := h12_4
        have X17 : PX S t (gAc K V p1) (gA2 K V p1) dt dt13 := PX_st X8 h12_0 (fun hl => by first | ((repeat (first | rw [gA0_n (by omega)] | rw [gA1_n (by omega)] | rw [gA2_n (by omega)] | rw [gA3_n (by omega)])); exact gA1_p (by omega)) | (exfalso; omega))
        have r18 : -2147483648 ≤ am_shl v_h12 8 ∧ am_shl v_h12 8 ≤ 2147483647 := am_shl_R
        have r19 : -2147483648 ≤ am_or (am_or p1 (am_shl v_h3 4)) (am_shl v_h12 8) ∧ am_or (am_or p1 (am_shl v_h3 4)) (am_shl v_h12 8) ≤ 2147483647 := am_or_R
        refine go_toq PM26 (k := 9) (pc' := 87) (L' := [some (.inr (.inr (some 35))), some (.inl p1), some (.inl 1), some (.inl (am_or (am_or p1 (am_shl v_h3 4)) (am_shl v_h12 8))), some (.inl v_h3)]) (st' := [.inl 4, .inr (.inr (some 35)), .inl (am_or (am_or p1 (am_shl v_h3 4)) (am_shl v_h12 8))]) (w' := (SH, dt13)) rfl ?_
        refine go_callq PM26 PM24 (Q' := _) rfl rfl rfl rfl (sp_X1_oneOf_f L xs sio (d + 1) dt13 hI14 K V S t hz ht 4 ⟨by decide, by decide⟩ (by first | assumption | exact TKc_fr h_p0 hF16 (by decide) (by decide) (by decide) (by omega) | omega) (by first | assumption | exact TKc_fr h_p0 hF16 (by decide) (by decide) (by decide) (by omega) | omega) (by first | assumption | exact TKc_fr h_p0 hF16 (by decide) (by decide) (by decide) (by omega) | omega)) ?_
        rintro _ _ ⟨dt21, rfl, hI22, hF23, h20⟩
        refine ⟨rfl, ?_⟩
        have hF24 : Fr [35] dt dt21 := Fr_tr hF16 hF23 (by decide)
        rcases h20 with ⟨v_h20, rfl, h20r, h20⟩
        obtain ⟨h20_0, h20_1, h20_2, h20_3, h20_4, h20_5, h20_6, h20_7⟩ := h20
        have ha3_ := SPX_at h20_0 (by omega) (by omega) (fun _ z_ => gA_at z_)
        have hv3_ : dt21 35 2 = 0 → v_h20 = V (dt13 35 8).toNat := h20_4
        have X25 : PX S t (gAc K V p1) (gA3 K V p1) dt dt21 := PX_st X17 h20_0 (fun hl => by first | ((repeat (first | rw [gA0_n (by omega)] | rw [gA1_n (by omega)] | rw [gA2_n (by omega)] | rw [gA3_n (by omega)])); exact gA2_p (by omega)) | (exfalso; omega))
        have r26 : -2147483648 ≤ am_shl v_h20 10 ∧ am_shl v_h20 10 ≤ 2147483647 := am_shl_R
        have r27 : -2147483648 ≤ am_or (am_or (am_or p1 (am_shl v_h3 4)) (am_shl v_h12 8)) (am_shl v_h20 10) ∧ am_or (am_or (am_or p1 (am_shl v_h3 4)) (am_shl v_h12 8)) (am_shl v_h20 10) ≤ 2147483647 := am_or_R
        refine go_ifq PM26 (k := 6) (p1 := 112) (p2 := 101) (L' := [some (.inr (.inr (some 35))), some (.inl p1), some (.inl 1), some (.inl (am_or (am_or (am_or p1 (am_shl v_h3 4)) (am_shl v_h12 8)) (am_shl v_h20 10))), some (.inl v_h3)]) (st' := []) (w' := (SH, dt21)) rfl (c_ne (a := p1) (b := 6) (by first | exact bnd h_p1 (by decide) (by decide) | exact ⟨by omega, by omega⟩) ⟨by decide, by decide⟩) (fun c28 => ?_) (fun c28 => ?_)
        · skip
          refine go_ifq PM26 (k := 2) (p1 := 129) (p2 := 118) (L' := [some (.inr (.inr (some 35))), some (.inl p1), some (.inl 1), some (.inl (am_or (am_or (am_or p1 (am_shl v_h3 4)) (am_shl v_h12 8)) (am_shl v_h20 10))), some (.inl v_h3)]) (st' := []) (w' := (SH, dt21)) rfl (c_ne (a := p1) (b := 8) (by first | exact bnd h_p1 (by decide) (by decide) | exact ⟨by omega, by omega⟩) ⟨by decide, by decide⟩) (fun c29 => ?_) (fun c29 => ?_)
          · skip
            refine go_retq PM26 (k := 1) (r := some (.inl (am_or (am_or (am_or p1 (am_shl v_h3 4)) (am_shl v_h12 8)) (am_shl v_h20 10)))) (w1 := (SH, dt21)) rfl ?_
            exact ⟨dt21, rfl, hI22, hF24, ⟨_, rfl, (by first | exact bnd r27 (by decide) (by decide) | exact ⟨by omega, by omega⟩), ⟨by first | exact PX_e X25 (by omega) | exact PX_e (PX_g X25 (fun _ => by first | ((repeat (first | rw [gA0_n (by omega)] | rw [gA1_n (by omega)] | rw [gA2_n (by omega)] | rw [gA3_n (by omega)])); done) | (exfalso; omega))) (by omega), by first | exact True.intro | assumption | rfl | omega | trivial, by first | exact True.intro | assumption | rfl | omega | trivial, by first | exact True.intro | assumption | rfl | omega | trivial, by intro z_; first | exact AE_2 (by omega) ⟨by omega, by omega⟩ ⟨by omega, by omega⟩ ⟨by omega, by omega⟩ (hv1_ (by omega)) (by have y_ := hv2_ (by omega); rw [y_]; congr 1; omega) (by have y_ := hv3_ (by omega); rw [y_]; congr 1; omega) rfl | (exfalso; omega), by first | exact True.intro | assumption | rfl | omega | trivial, by first | exact True.intro | assumption | rfl | omega | trivial⟩⟩⟩
          · exfalso; omega
        · exfalso; omega
      · exfalso; omega
  · skip
    refine go_ifq PM26 (k := 2) (p1 := 15) (p2 := 10) (L' := [some (.inr (.inr (some 35))), some (.inl p1), none, none, none]) (st' := []) (w' := (SH, dt)) rfl (c_eq (a := p1) (b := 3) (by first | exact bnd h_p1 (by decide) (by decide) | exact ⟨by omega, by omega⟩) ⟨by decide, by decide⟩) (fun c30 => ?_) (fun c30 => ?_)
    · skip
      refine go_ifq PM26 (k := 7) (p1 := 60) (p2 := 29) (L' := [some (.inr (.inr (some 35))), some (.inl p1), some (.inl 1), some (.inl p1), none]) (st' := []) (w' := (SH, dt)) rfl (c_eq (a := p1) (b := 8) (by first | exact bnd h_p1 (by decide) (by decide) | exact ⟨by omega, by omega⟩) ⟨by decide, by decide⟩) (fun c31 => ?_) (fun c31 => ?_)
      · exfalso; omega
      · skip
        refine go_toq PM26 (k := 2) (pc' := 31) (L' := [some (.inr (.inr (some 35))), some (.inl p1), some (.inl 1), some (.inl p1), none]) (st' := [.inl 4, .inr (.inr (some 35))]) (w' := (SH, dt)) rfl ?_
        refine go_callq PM26 PM24 (Q' := _) rfl rfl rfl rfl (sp_X1_oneOf_f L xs sio (d + 1) dt hI K V S t hz ht 4 ⟨by decide, by decide⟩ (by first | assumption | exact TKc_fr h_p0 hF (by decide) (by decide) (by decide) (by omega) | omega) (by first | assumption | exact TKc_fr h_p0 hF (by decide) (by decide) (by decide) (by omega) | omega) (by first | assumption | exact TKc_fr h_p0 hF (by decide) (by decide) (by decide) (by omega) | omega)) ?_
        rintro _ _ ⟨dt33, rfl, hI34, hF35, h32⟩
        refine ⟨rfl, ?_⟩
        have hF36 : Fr [35] dt dt33 := Fr_tr hF hF35 (by decide)
        rcases h32 with ⟨v_h32, rfl, h32r, h32⟩
        obtain ⟨h32_0, h32_1, h32_2, h32_3, h32_4, h32_5, h32_6, h32_7⟩ := h32
        have ha1_ := SPX_at h32_0 (by omega) (by omega) (fun _ z_ => gA_at z_)
        have hv1_ : dt33 35 2 = 0 → v_h32 = V (dt 35 8).toNat := h32_4
        have X37 : PX S t (gAc K V p1) (gA0 K V p1 (V (dt 35 8).toNat)) dt dt33 := PX_st PX_0 h32_0 (fun hl => by first | exact gAc_n (by omega) | (exfalso; omega))
        have r38 : -2147483648 ≤ am_shl v_h32 4 ∧ am_shl v_h32 4 ≤ 2147483647 := am_shl_R
        have r39 : -2147483648 ≤ am_or p1 (am_shl v_h32 4) ∧ am_or p1 (am_shl v_h32 4) ≤ 2147483647 := am_or_R
        refine go_ifq PM26 (k := 9) (p1 := 60) (p2 := 48) (L' := [some (.inr (.inr (some 35))), some (.inl p1), some (.inl 1), some (.inl (am_or p1 (am_shl v_h32 4))), some (.inl v_h32)]) (st' := []) (w' := (SH, dt33)) rfl (c_ne (a := p1) (b := 4) (by first | exact bnd h_p1 (by decide) (by decide) | exact ⟨by omega, by omega⟩) ⟨by decide, by decide⟩) (fun c40 => ?_) (fun c40 => ?_)
        · skip
          refine go_toq PM26 (k := 5) (pc' := 67) (L' := [some (.inr (.inr (some 35))), some (.inl p1), some (.inl 1), some (.inl (am_or p1 (am_shl v_h32 4))), some (.inl v_h32)]) (st' := [.inl 3, .inr (.inr (some 35)), .inl (am_or p1 (am_shl v_h32 4))]) (w' := (SH, dt33)) rfl ?_
          refine go_callq PM26 PM24 (Q' := _) rfl rfl rfl rfl (sp_X1_oneOf_f L xs sio (d + 1) dt33 hI34 K V S t hz ht 3 ⟨by decide, by decide⟩ (by first | assumption | exact TKc_fr h_p0 hF36 (by decide) (by decide) (by decide) (by omega) | omega) (by first | assumption | exact TKc_fr h_p0 hF36 (by decide) (by decide) (by decide) (by omega) | omega) (by first | assumption | exact TKc_fr h_p0 hF36 (by decide) (by decide) (by decide) (by omega) | omega)) ?_
          rintro _ _ ⟨dt42, rfl, hI43, hF44, h41⟩
          refine ⟨rfl, ?_⟩
          have hF45 : Fr [35] dt dt42 := Fr_tr hF36 hF44 (by decide)
          rcases h41 with ⟨v_h41, rfl, h41r, h41⟩
          obtain ⟨h41_0, h41_1, h41_2, h41_3, h41_4, h41_5, h41_6, h41_7⟩ := h41
          have ha2_ := SPX_at h41_0 (by omega) (by omega) (fun _ z_ => gA_at z_)
          have hv2_ : dt42 35 2 = 0 → v_h41 = V (dt33 35 8).toNat := h41_4
          have X46 : PX S t (gAc K V p1) (gA2 K V p1) dt dt42 := PX_st X37 h41_0 (fun hl => by first | ((repeat (first | rw [gA0_n (by omega)] | rw [gA1_n (by omega)] | rw [gA2_n (by omega)] | rw [gA3_n (by omega)])); exact gA1_p (by omega)) | (exfalso; omega))
          have r47 : -2147483648 ≤ am_shl v_h41 8 ∧ am_shl v_h41 8 ≤ 2147483647 := am_shl_R
          have r48 : -2147483648 ≤ am_or (am_or p1 (am_shl v_h32 4)) (am_shl v_h41 8) ∧ am_or (am_or p1 (am_shl v_h32 4)) (am_shl v_h41 8) ≤ 2147483647 := am_or_R
          refine go_toq PM26 (k := 9) (pc' := 87) (L' := [some (.inr (.inr (some 35))), some (.inl p1), some (.inl 1), some (.inl (am_or (am_or p1 (am_shl v_h32 4)) (am_shl v_h41 8))), some (.inl v_h32)]) (st' := [.inl 4, .inr (.inr (some 35)), .inl (am_or (am_or p1 (am_shl v_h32 4)) (am_shl v_h41 8))]) (w' := (SH, dt42)) rfl ?_
          refine go_callq PM26 PM24 (Q' := _) rfl rfl rfl rfl (sp_X1_oneOf_f L xs sio (d + 1) dt42 hI43 K V S t hz ht 4 ⟨by decide, by decide⟩ (by first | assumption | exact TKc_fr h_p0 hF45 (by decide) (by decide) (by decide) (by omega) | omega) (by first | assumption | exact TKc_fr h_p0 hF45 (by decide) (by decide) (by decide) (by omega) | omega) (by first | assumption | exact TKc_fr h_p0 hF45 (by decide) (by decide) (by decide) (by omega) | omega)) ?_
          rintro _ _ ⟨dt50, rfl, hI51, hF52, h49⟩
          refine ⟨rfl, ?_⟩
          have hF53 : Fr [35] dt dt50 := Fr_tr hF45 hF52 (by decide)
          rcases h49 with ⟨v_h49, rfl, h49r, h49⟩
          obtain ⟨h49_0, h49_1, h49_2, h49_3, h49_4, h49_5, h49_6, h49_7⟩ := h49
          have ha3_ := SPX_at h49_0 (by omega) (by omega) (fun _ z_ => gA_at z_)
          have hv3_ : dt50 35 2 = 0 → v_h49 = V (dt42 35 8).toNat := h49_4
          have X54 : PX S t (gAc K V p1) (gA3 K V p1) dt dt50 := PX_st X46 h49_0 (fun hl => by first | ((repeat (first | rw [gA0_n (by omega)] | rw [gA1_n (by omega)] | rw [gA2_n (by omega)] | rw [gA3_n (by omega)])); exact gA2_p (by omega)) | (exfalso; omega))
          have r55 : -2147483648 ≤ am_shl v_h49 10 ∧ am_shl v_h49 10 ≤ 2147483647 := am_shl_R
          have r56 : -2147483648 ≤ am_or (am_or (am_or p1 (am_shl v_h32 4)) (am_shl v_h41 8)) (am_shl v_h49 10) ∧ am_or (am_or (am_or p1 (am_shl v_h32 4)) (am_shl v_h41 8)) (am_shl v_h49 10) ≤ 2147483647 := am_or_R
          refine go_ifq PM26 (k := 6) (p1 := 112) (p2 := 101) (L' := [some (.inr (.inr (some 35))), some (.inl p1), some (.inl 1), some (.inl (am_or (am_or (am_or p1 (am_shl v_h32 4)) (am_shl v_h41 8)) (am_shl v_h49 10))), some (.inl v_h32)]) (st' := []) (w' := (SH, dt50)) rfl (c_ne (a := p1) (b := 6) (by first | exact bnd h_p1 (by decide) (by decide) | exact ⟨by omega, by omega⟩) ⟨by decide, by decide⟩) (fun c57 => ?_) (fun c57 => ?_)
          · skip
            refine go_ifq PM26 (k := 2) (p1 := 129) (p2 := 118) (L' := [some (.inr (.inr (some 35))), some (.inl p1), some (.inl 1), some (.inl (am_or (am_or (am_or p1 (am_shl v_h32 4)) (am_shl v_h41 8)) (am_shl v_h49 10))), some (.inl v_h32)]) (st' := []) (w' := (SH, dt50)) rfl (c_ne (a := p1) (b := 8) (by first | exact bnd h_p1 (by decide) (by decide) | exact ⟨by omega, by omega⟩) ⟨by decide, by decide⟩) (fun c58 => ?_) (fun c58 => ?_)
            · skip
              refine go_retq PM26 (k := 1) (r := some (.inl (am_or (am_or (am_or p1 (am_shl v_h32 4)) (am_shl v_h41 8)) (am_shl v_h49 10)))) (w1 := (SH, dt50)) rfl ?_
              exact ⟨dt50, rfl, hI51, hF53, ⟨_, rfl, (by first | exact bnd r56 (by decide) (by decide) | exact ⟨by omega, by omega⟩), ⟨by first | exact PX_e X54 (by omega) | exact PX_e (PX_g X54 (fun _ => by first | ((repeat (first | rw [gA0_n (by omega)] | rw [gA1_n (by omega)] | rw [gA2_n (by omega)] | rw [gA3_n (by omega)])); done) | (exfalso; omega))) (by omega), by first | exact True.intro | assumption | rfl | omega | trivial, by first | exact True.intro | assumption | rfl | omega | trivial, by first | exact True.intro | assumption | rfl | omega | trivial, by intro z_; first | exact AE_2 (by omega) ⟨by omega, by omega⟩ ⟨by omega, by omega⟩ ⟨by omega, by omega⟩ (hv1_ (by omega)) (by have y_ := hv2_ (by omega); rw [y_]; congr 1; omega) (by have y_ := hv3_ (by omega); rw [y_]; congr 1; omega) rfl | (exfalso; omega), by first | exact True.intro | assumption | rfl | omega | trivial, by first | exact True.intro | assumption | rfl | omega | trivial⟩⟩⟩
            · exfalso; omega
          · exfalso; omega
        · exfalso; omega
    · skip
      refine go_ifq PM26 (k := 2) (p1 := 19) (p2 := 15) (L' := [some (.inr (.inr (some 35))), some (.inl p1), none, none, none]) (st' := []) (w' := (SH, dt)) rfl (c_ne (a := p1) (b := 4) (by first | exact bnd h_p1 (by decide) (by decide) | exact ⟨by omega, by omega⟩) ⟨by decide, by decide⟩) (fun c59 => ?_) (fun c59 => ?_)
      · skip
        refine go_ifq PM26 (k := 6) (p1 := 60) (p2 := 29) (L' := [some (.inr (.inr (some 35))), some (.inl p1), some (.inl 0), some (.inl p1), none]) (st' := []) (w' := (SH, dt)) rfl (c_eq (a := p1) (b := 8) (by first | exact bnd h_p1 (by decide) (by decide) | exact ⟨by omega, by omega⟩) ⟨by decide, by decide⟩) (fun c60 => ?_) (fun c60 => ?_)
        · skip
          refine go_ifq PM26 (k := 6) (p1 := 95) (p2 := 84) (L' := [some (.inr (.inr (some 35))), some (.inl p1), some (.inl 0), some (.inl p1), none]) (st' := []) (w' := (SH, dt)) rfl (c_ne (a := p1) (b := 5) (by first | exact bnd h_p1 (by decide) (by decide) | exact ⟨by omega, by omega⟩) ⟨by decide, by decide⟩) (fun c61 => ?_) (fun c61 => ?_)
          · skip
            refine go_ifq PM26 (k := 2) (p1 := 112) (p2 := 101) (L' := [some (.inr (.inr (some 35))), some (.inl p1), some (.inl 0), some (.inl p1), none]) (st' := []) (w' := (SH, dt)) rfl (c_ne (a := p1) (b := 6) (by first | exact bnd h_p1 (by decide) (by decide) | exact ⟨by omega, by omega⟩) ⟨by decide, by decide⟩) (fun c62 => ?_) (fun c62 => ?_)
            · skip
              refine go_ifq PM26 (k := 2) (p1 := 129) (p2 := 118) (L' := [some (.inr (.inr (some 35))), some (.inl p1), some (.inl 0), some (.inl p1), none]) (st' := []) (w' := (SH, dt)) rfl (c_ne (a := p1) (b := 8) (by first | exact bnd h_p1 (by decide) (by decide) | exact ⟨by omega, by omega⟩) ⟨by decide, by decide⟩) (fun c63 => ?_) (fun c63 => ?_)
              · skip
                refine go_retq PM26 (k := 1) (r := some (.inl p1)) (w1 := (SH, dt)) rfl ?_
                exact ⟨dt, rfl, hI, hF, ⟨_, rfl, (by first | exact bnd h_p1 (by decide) (by decide) | exact ⟨by omega, by omega⟩), ⟨by first | exact PX_e PX_0 (by omega) | exact PX_e (PX_g PX_0 (fun _ => by first | ((repeat (first | rw [gA0_n (by omega)] | rw [gA1_n (by omega)] | rw [gA2_n (by omega)] | rw [gA3_n (by omega)])); done) | (exfalso; omega))) (by omega), by first | exact True.intro | assumption | rfl | omega | trivial, by first | exact True.intro | assumption | rfl | omega | trivial, by first | exact True.intro | assumption | rfl | omega | trivial, by intro z_; (exfalso; omega), by first | exact True.intro | assumption | rfl | omega | trivial, by first | exact True.intro | assumption | rfl | omega | trivial⟩⟩⟩
              · skip
                refine go_toq PM26 (k := 3) (pc' := 121) (L' := [some (.inr (.inr (some 35))), some (.inl p1), some (.inl 0), some (.inl p1), none]) (st' := [.inl 2, .inr (.inr (some 35)), .inl p1]) (w' := (SH, dt)) rfl ?_
                refine go_callq PM26 PM24 (Q' := _) rfl rfl rfl rfl (sp_X1_oneOf_f L xs sio (d + 1) dt hI K V S t hz ht 2 ⟨by decide, by decide⟩ (by first | assumption | exact TKc_fr h_p0 hF (by decide) (by decide) (by decide) (by omega) | omega) (by first | assumption | exact TKc_fr h_p0 hF (by decide) (by decide) (by decide) (by omega) | omega) (by first | assumption | exact TKc_fr h_p0 hF (by decide) (by decide) (by decide) (by omega) | omega)) ?_
                rintro _ _ ⟨dt65, rfl, hI66, hF67, h64⟩
                refine ⟨rfl, ?_⟩
                have hF68 : Fr [35] dt dt65 := Fr_tr hF hF67 (by decide)
                rcases h64 with ⟨v_h64, rfl, h64r, h64⟩
                obtain ⟨h64_0, h64_1, h64_2, h64_3, h64_4, h64_5, h64_6, h64_7⟩ := h64
                have ha1_ := SPX_at h64_0 (by omega) (by omega) (fun _ z_ => gA_at z_)
                have hv1_ : dt65 35 2 = 0 → v_h64 = V (dt 35 8).toNat := h64_4
                have X69 : PX S t (gAc K V p1) gOk dt dt65 := PX_st PX_0 h64_0 (fun hl => by first | (exact gAc_p (by omega)) | (exfalso; omega))
                have r70 : -2147483648 ≤ am_shl v_h64 13 ∧ am_shl v_h64 13 ≤ 2147483647 := am_shl_R
                have r71 : -2147483648 ≤ am_or p1 (am_shl v_h64 13) ∧ am_or p1 (am_shl v_h64 13) ≤ 2147483647 := am_or_R
                refine go_retq PM26 (k := 5) (r := some (.inl (am_or p1 (am_shl v_h64 13)))) (w1 := (SH, dt65)) rfl ?_
                exact ⟨dt65, rfl, hI66, hF68, ⟨_, rfl, (by first | exact bnd r71 (by decide) (by decide) | exact ⟨by omega, by omega⟩), ⟨by first | exact PX_e X69 (by omega) | exact PX_e (PX_g X69 (fun _ => by first | ((repeat (first | rw [gA0_n (by omega)] | rw [gA1_n (by omega)] | rw [gA2_n (by omega)] | rw [gA3_n (by omega)])); done) | (exfalso; omega))) (by omega), by first | exact True.intro | assumption | rfl | omega | trivial, by first | exact True.intro | assumption | rfl | omega | trivial, by first | exact True.intro | assumption | rfl | omega | trivial, by intro z_; first | exact AE_8 (by omega) ⟨by omega, by omega⟩ (hv1_ (by omega)) rfl | (exfalso; omega), by first | exact True.intro | assumption | rfl | omega | trivial, by first | exact True.intro | assumption | rfl | omega | trivial⟩⟩⟩
            · exfalso; omega
          · exfalso; omega
        · skip
          refine go_toq PM26 (k := 2) (pc' := 31) (L' := [some (.inr (.inr (some 35))), some (.inl p1), some (.inl 0), some (.inl p1), none]) (st' := [.inl 4, .inr (.inr (some 35))]) (w' := (SH, dt)) rfl ?_
          refine go_callq PM26 PM24 (Q' := _) rfl rfl rfl rfl (sp_X1_oneOf_f L xs sio (d + 1) dt hI K V S t hz ht 4 ⟨by decide, by decide⟩ (by first | assumption | exact TKc_fr h_p0 hF (by decide) (by decide) (by decide) (by omega) | omega) (by first | assumption | exact TKc_fr h_p0 hF (by decide) (by decide) (by decide) (by omega) | omega) (by first | assumption | exact TKc_fr h_p0 hF (by decide) (by decide) (by decide) (by omega) | omega)) ?_
          rintro _ _ ⟨dt73, rfl, hI74, hF75, h72⟩
          refine ⟨rfl, ?_⟩
          have hF76 : Fr [35] dt dt73 := Fr_tr hF hF75 (by decide)
          rcases h72 with ⟨v_h72, rfl, h72r, h72⟩
          obtain ⟨h72_0, h72_1, h72_2, h72_3, h72_4, h72_5, h72_6, h72_7⟩ := h72
          have ha1_ := SPX_at h72_0 (by omega) (by omega) (fun _ z_ => gA_at z_)
          have hv1_ : dt73 35 2 = 0 → v_h72 = V (dt 35 8).toNat := h72_4
          have X77 : PX S t (gAc K V p1) (gA0 K V p1 (V (dt 35 8).toNat)) dt dt73 := PX_st PX_0 h72_0 (fun hl => by first | exact gAc_n (by omega) | (exfalso; omega))
          have r78 : -2147483648 ≤ am_shl v_h72 4 ∧ am_shl v_h72 4 ≤ 2147483647 := am_shl_R
          have r79 : -2147483648 ≤ am_or p1 (am_shl v_h72 4) ∧ am_or p1 (am_shl v_h72 4) ≤ 2147483647 := am_or_R
          refine go_ifq PM26 (k := 9) (p1 := 60) (p2 := 48) (L' := [some (.inr (.inr (some 35))), some (.inl p1), some (.inl 0), some (.inl (am_or p1 (am_shl v_h72 4))), some (.inl v_h72)]) (st' := []) (w' := (SH, dt73)) rfl (c_ne (a := p1) (b := 4) (by first | exact bnd h_p1 (by decide) (by decide) | exact ⟨by omega, by omega⟩) ⟨by decide, by decide⟩) (fun c80 => ?_) (fun c80 => ?_)
          · skip
            refine go_ifq PM26 (k := 6) (p1 := 95) (p2 := 84) (L' := [some (.inr (.inr (some 35))), some (.inl p1), some (.inl 0), some (.inl (am_or p1 (am_shl v_h72 4))), some (.inl v_h72)]) (st' := []) (w' := (SH, dt73)) rfl (c_ne (a := p1) (b := 5) (by first | exact bnd h_p1 (by decide) (by decide) | exact ⟨by omega, by omega⟩) ⟨by decide, by decide⟩) (fun c81 => ?_) (fun c81 => ?_)
            · skip
              refine go_ifq PM26 (k := 2) (p1 := 112) (p2 := 101) (L' := [some (.inr (.inr (some 35))), some (.inl p1), some (.inl 0), some (.inl (am_or p1 (am_shl v_h72 4))), some (.inl v_h72)]) (st' := []) (w' := (SH, dt73)) rfl (c_ne (a := p1) (b := 6) (by first | exact bnd h_p1 (by decide) (by decide) | exact ⟨by omega, by omega⟩) ⟨by decide, by decide⟩) (fun c82 => ?_) (fun c82 => ?_)
              · skip
                refine go_ifq PM26 (k := 2) (p1 := 129) (p2 := 118) (L' := [some (.inr (.inr (some 35))), some (.inl p1), some (.inl 0), some (.inl (am_or p1 (am_shl v_h72 4))), some (.inl v_h72)]) (st' := []) (w' := (SH, dt73)) rfl (c_ne (a := p1) (b := 8) (by first | exact bnd h_p1 (by decide) (by decide) | exact ⟨by omega, by omega⟩) ⟨by decide, by decide⟩) (fun c83 => ?_) (fun c83 => ?_)
                · skip
                  refine go_retq PM26 (k := 1) (r := some (.inl (am_or p1 (am_shl v_h72 4)))) (w1 := (SH, dt73)) rfl ?_
                  exact ⟨dt73, rfl, hI74, hF76, ⟨_, rfl, (by first | exact bnd r79 (by decide) (by decide) | exact ⟨by omega, by omega⟩), ⟨by first | exact PX_e X77 (by omega) | exact PX_e (PX_g X77 (fun _ => by first | ((repeat (first | rw [gA0_n (by omega)] | rw [gA1_n (by omega)] | rw [gA2_n (by omega)] | rw [gA3_n (by omega)])); done) | (exfalso; omega))) (by omega), by first | exact True.intro | assumption | rfl | omega | trivial, by first | exact True.intro | assumption | rfl | omega | trivial, by first | exact True.intro | assumption | rfl | omega | trivial, by intro z_; first | exact AE_0 (by omega) ⟨by omega, by omega⟩ (hv1_ (by omega)) rfl | (exfalso; omega), by first | exact True.intro | assumption | rfl | omega | trivial, by first | exact True.intro | assumption | rfl | omega | trivial⟩⟩⟩
                · exfalso; omega
              · skip
                refine go_toq PM26 (k := 3) (pc' := 104) (L' := [some (.inr (.inr (some 35))), some (.inl p1), some (.inl 0), some (.inl (am_or p1 (am_shl v_h72 4))), some (.inl v_h72)]) (st' := [.inl 2, .inr (.inr (some 35)), .inl (am_or p1 (am_shl v_h72 4))]) (w' := (SH, dt73)) rfl ?_
                refine go_callq PM26 PM24 (Q' := _) rfl rfl rfl rfl (sp_X1_oneOf_f L xs sio (d + 1) dt73 hI74 K V S t hz ht 2 ⟨by decide, by decide⟩ (by first | assumption | exact TKc_fr h_p0 hF76 (by decide) (by decide) (by decide) (by omega) | omega) (by first | assumption | exact TKc_fr h_p0 hF76 (by decide) (by decide) (by decide) (by omega) | omega) (by first | assumption | exact TKc_fr h_p0 hF76 (by decide) (by decide) (by decide) (by omega) | omega)) ?_
                rintro _ _ ⟨dt85, rfl, hI86, hF87, h84⟩
                refine ⟨rfl, ?_⟩
                have hF88 : Fr [35] dt dt85 := Fr_tr hF76 hF87 (by decide)
                rcases h84 with ⟨v_h84, rfl, h84r, h84⟩
                obtain ⟨h84_0, h84_1, h84_2, h84_3, h84_4, h84_5, h84_6, h84_7⟩ := h84
                have ha2_ := SPX_at h84_0 (by omega) (by omega) (fun _ z_ => gA_at z_)
                have hv2_ : dt85 35 2 = 0 → v_h84 = V (dt73 35 8).toNat := h84_4
                have X89 : PX S t (gAc K V p1) gOk dt dt85 := PX_st X77 h84_0 (fun hl => by first | ((repeat (first | rw [gA0_n (by omega)] | rw [gA1_n (by omega)] | rw [gA2_n (by omega)] | rw [gA3_n (by omega)])); exact gA3_p (by omega)) | (exfalso; omega))
                have r90 : -2147483648 ≤ am_shl v_h84 12 ∧ am_shl v_h84 12 ≤ 2147483647 := am_shl_R
                have r91 : -2147483648 ≤ am_or (am_or p1 (am_shl v_h72 4)) (am_shl v_h84 12) ∧ am_or (am_or p1 (am_shl v_h72 4)) (am_shl v_h84 12) ≤ 2147483647 := am_or_R
                refine go_ifq PM26 (k := 6) (p1 := 129) (p2 := 118) (L' := [some (.inr (.inr (some 35))), some (.inl p1), some (.inl 0), some (.inl (am_or (am_or p1 (am_shl v_h72 4)) (am_shl v_h84 12))), some (.inl v_h72)]) (st' := []) (w' := (SH, dt85)) rfl (c_ne (a := p1) (b := 8) (by first | exact bnd h_p1 (by decide) (by decide) | exact ⟨by omega, by omega⟩) ⟨by decide, by decide⟩) (fun c92 => ?_) (fun c92 => ?_)
                · skip
                  refine go_retq PM26 (k := 1) (r := some (.inl (am_or (am_or p1 (am_shl v_h72 4)) (am_shl v_h84 12)))) (w1 := (SH, dt85)) rfl ?_
                  exact ⟨dt85, rfl, hI86, hF88, ⟨_, rfl, (by first | exact bnd r91 (by decide) (by decide) | exact ⟨by omega, by omega⟩), ⟨by first | exact PX_e X89 (by omega) | exact PX_e (PX_g X89 (fun _ => by first | ((repeat (first | rw [gA0_n (by omega)] | rw [gA1_n (by omega)] | rw [gA2_n (by omega)] | rw [gA3_n (by omega)])); done) | (exfalso; omega))) (by omega), by first | exact True.intro | assumption | rfl | omega | trivial, by first | exact True.intro | assumption | rfl | omega | trivial, by first | exact True.intro | assumption | rfl | omega | trivial, by intro z_; first | exact AE_6 (by omega) ⟨by omega, by omega⟩ ⟨by omega, by omega⟩ (hv1_ (by omega)) (by have y_ := hv2_ (by omega); rw [y_]; congr 1; omega) rfl | (exfalso; omega), by first | exact True.intro | assumption | rfl | omega | trivial, by first | exact True.intro | assumption | rfl | omega | trivial⟩⟩⟩
                · exfalso; omega
            · skip
              refine go_toq PM26 (k := 3) (pc' := 87) (L' := [some (.inr (.inr (some 35))), some (.inl p1), some (.inl 0), some (.inl (am_or p1 (am_shl v_h72 4))), some (.inl v_h72)]) (st' := [.inl 4, .inr (.inr (some 35)), .inl (am_or p1 (am_shl v_h72 4))]) (w' := (SH, dt73)) rfl ?_
              refine go_callq PM26 PM24 (Q' := _) rfl rfl rfl rfl (sp_X1_oneOf_f L xs sio (d + 1) dt73 hI74 K V S t hz ht 4 ⟨by decide, by decide⟩ (by first | assumption | exact TKc_fr h_p0 hF76 (by decide) (by decide) (by decide) (by omega) | omega) (by first | assumption | exact TKc_fr h_p0 hF76 (by decide) (by decide) (by decide) (by omega) | omega) (by first | assumption | exact TKc_fr h_p0 hF76 (by decide) (by decide) (by decide) (by omega) | omega)) ?_
              rintro _ _ ⟨dt94, rfl, hI95, hF96, h93⟩
              refine ⟨rfl, ?_⟩
              have hF97 : Fr [35] dt dt94 := Fr_tr hF76 hF96 (by decide)
              rcases h93 with ⟨v_h93, rfl, h93r, h93⟩
              obtain ⟨h93_0, h93_1, h93_2, h93_3, h93_4, h93_5, h93_6, h93_7⟩ := h93
              have ha2_ := SPX_at h93_0 (by omega) (by omega) (fun _ z_ => gA_at z_)
              have hv2_ : dt94 35 2 = 0 → v_h93 = V (dt73 35 8).toNat := h93_4
              have X98 : PX S t (gAc K V p1) (gA3 K V p1) dt dt94 := PX_st X77 h93_0 (fun hl => by first | ((repeat (first | rw [gA0_n (by omega)] | rw [gA1_n (by omega)] | rw [gA2_n (by omega)] | rw [gA3_n (by omega)])); exact gA2_p (by omega)) | (exfalso; omega))
              have r99 : -2147483648 ≤ am_shl v_h93 10 ∧ am_shl v_h93 10 ≤ 2147483647 := am_shl_R
              have r100 : -2147483648 ≤ am_or (am_or p1 (am_shl v_h72 4)) (am_shl v_h93 10) ∧ am_or (am_or p1 (am_shl v_h72 4)) (am_shl v_h93 10) ≤ 2147483647 := am_or_R
              refine go_ifq PM26 (k := 6) (p1 := 112) (p2 := 101) (L' := [some (.inr (.inr (some 35))), some (.inl p1), some (.inl 0), some (.inl (am_or (am_or p1 (am_shl v_h72 4)) (am_shl v_h93 10))), some (.inl v_h72)]) (st' := []) (w' := (SH, dt94)) rfl (c_ne (a := p1) (b := 6) (by first | exact bnd h_p1 (by decide) (by decide) | exact ⟨by omega, by omega⟩) ⟨by decide, by decide⟩) (fun c101 => ?_) (fun c101 => ?_)
              · skip
                refine go_ifq PM26 (k := 2) (p1 := 129) (p2 := 118) (L' := [some (.inr (.inr (some 35))), some (.inl p1), some (.inl 0), some (.inl (am_or (am_or p1 (am_shl v_h72 4)) (am_shl v_h93 10))), some (.inl v_h72)]) (st' := []) (w' := (SH, dt94)) rfl (c_ne (a := p1) (b := 8) (by first | exact bnd h_p1 (by decide) (by decide) | exact ⟨by omega, by omega⟩) ⟨by decide, by decide⟩) (fun c102 => ?_) (fun c102 => ?_)
                · skip
                  refine go_retq PM26 (k := 1) (r := some (.inl (am_or (am_or p1 (am_shl v_h72 4)) (am_shl v_h93 10)))) (w1 := (SH, dt94)) rfl ?_
                  exact ⟨dt94, rfl, hI95, hF97, ⟨_, rfl, (by first | exact bnd r100 (by decide) (by decide) | exact ⟨by omega, by omega⟩), ⟨by first | exact PX_e X98 (by omega) | exact PX_e (PX_g X98 (fun _ => by first | ((repeat (first | rw [gA0_n (by omega)] | rw [gA1_n (by omega)] | rw [gA2_n (by omega)] | rw [gA3_n (by omega)])); done) | (exfalso; omega))) (by omega), by first | exact True.intro | assumption | rfl | omega | trivial, by first | exact True.intro | assumption | rfl | omega | trivial, by first | exact True.intro | assumption | rfl | omega | trivial, by intro z_; first | exact AE_5 (by omega) ⟨by omega, by omega⟩ ⟨by omega, by omega⟩ (hv1_ (by omega)) (by have y_ := hv2_ (by omega); rw [y_]; congr 1; omega) rfl | (exfalso; omega), by first | exact True.intro | assumption | rfl | omega | trivial, by first | exact True.intro | assumption | rfl | omega | trivial⟩⟩⟩
                · exfalso; omega
              · exfalso; omega
          · skip
            refine go_toq PM26 (k := 3) (pc' := 52) (L' := [some (.inr (.inr (some 35))), some (.inl p1), some (.inl 0), some (.inl (am_or p1 (am_shl v_h72 4))), some (.inl v_h72)]) (st' := [.inl v_h72, .inr (.inr (some 35)), .inl (am_or p1 (am_shl v_h72 4))]) (w' := (SH, dt73)) rfl ?_
            refine go_callq PM26 PM27 (Q' := _) rfl rfl rfl rfl (sp_X1_readOther_f L xs sio (d + 0) dt73 hI74 K V S t hz ht v_h72 (by first | exact bnd h72r (by decide) (by decide) | exact ⟨by omega, by omega⟩) (by first | assumption | exact TKc_fr h_p0 hF76 (by decide) (by decide) (by decide) (by omega) | omega) (by first | assumption | exact TKc_fr h_p0 hF76 (by decide) (by decide) (by decide) (by omega) | omega) (by first | assumption | exact TKc_fr h_p0 hF76 (by decide) (by decide) (by decide) (by omega) | omega)) ?_
            rintro _ _ ⟨dt104, rfl, hI105, hF106, h103⟩
            refine ⟨rfl, ?_⟩
            have hF107 : Fr [35] dt dt104 := Fr_tr hF76 hF106 (by decide)
            rcases h103 with ⟨v_h103, rfl, h103r, h103⟩
            obtain ⟨h103_0, h103_1, h103_2, h103_3, h103_4, h103_5, h103_6, h103_7, h103_8⟩ := h103
            have ha2_ := SPX_at h103_0 (by omega) (by omega) (fun _ z_ => gOt_at z_)
            have hv2_ : dt104 35 2 = 0 → v_h103 = V (dt73 35 8).toNat := h103_5
            have X108 : PX S t (gAc K V p1) (gA1 K V p1) dt dt104 := PX_st X77 h103_0 (fun hl => by first | (rw [gA0_p (by omega), h72_4 hl]) | (exfalso; omega))
            have r109 : -2147483648 ≤ am_shl v_h103 6 ∧ am_shl v_h103 6 ≤ 2147483647 := am_shl_R
            have r110 : -2147483648 ≤ am_or (am_or p1 (am_shl v_h72 4)) (am_shl v_h103 6) ∧ am_or (am_or p1 (am_shl v_h72 4)) (am_shl v_h103 6) ≤ 2147483647 := am_or_R
            refine go_ifq PM26 (k := 10) (p1 := 95) (p2 := 84) (L' := [some (.inr (.inr (some 35))), some (.inl p1), some (.inl 0), some (.inl (am_or (am_or p1 (am_shl v_h72 4)) (am_shl v_h103 6))), some (.inl v_h72)]) (st' := []) (w' := (SH, dt104)) rfl (c_ne (a := p1) (b := 5) (by first | exact bnd h_p1 (by decide) (by decide) | exact ⟨by omega, by omega⟩) ⟨by decide, by decide⟩) (fun c111 => ?_) (fun c111 => ?_)
            · skip
              refine go_ifq PM26 (k := 2) (p1 := 112) (p2 := 101) (L' := [some (.inr (.inr (some 35))), some (.inl p1), some (.inl 0), some (.inl (am_or (am_or p1 (am_shl v_h72 4)) (am_shl v_h103 6))), some (.inl v_h72)]) (st' := []) (w' := (SH, dt104)) rfl (c_ne (a := p1) (b := 6) (by first | exact bnd h_p1 (by decide) (by decide) | exact ⟨by omega, by omega⟩) ⟨by decide, by decide⟩) (fun c112 => ?_) (fun c112 => ?_)
              · skip
                refine go_ifq PM26 (k := 2) (p1 := 129) (p2 := 118) (L' := [some (.inr (.inr (some 35))), some (.inl p1), some (.inl 0), some (.inl (am_or (am_or p1 (am_shl v_h72 4)) (am_shl v_h103 6))), some (.inl v_h72)]) (st' := []) (w' := (SH, dt104)) rfl (c_ne (a := p1) (b := 8) (by first | exact bnd h_p1 (by decide) (by decide) | exact ⟨by omega, by omega⟩) ⟨by decide, by decide⟩) (fun c113 => ?_) (fun c113 => ?_)
                · skip
                  refine go_retq PM26 (k := 1) (r := some (.inl (am_or (am_or p1 (am_shl v_h72 4)) (am_shl v_h103 6)))) (w1 := (SH, dt104)) rfl ?_
                  exact ⟨dt104, rfl, hI105, hF107, ⟨_, rfl, (by first | exact bnd r110 (by decide) (by decide) | exact ⟨by omega, by omega⟩), ⟨by first | exact PX_e X108 (by omega) | exact PX_e (PX_g X108 (fun _ => by first | ((repeat (first | rw [gA0_n (by omega)] | rw [gA1_n (by omega)] | rw [gA2_n (by omega)] | rw [gA3_n (by omega)])); done) | (exfalso; omega))) (by omega), by first | exact True.intro | assumption | rfl | omega | trivial, by first | exact True.intro | assumption | rfl | omega | trivial, by first | exact True.intro | assumption | rfl | omega | trivial, by intro z_; (exfalso; omega), by first | exact True.intro | assumption | rfl | omega | trivial, by first | exact True.intro | assumption | rfl | omega | trivial⟩⟩⟩
                · exfalso; omega
              · exfalso; omega
            · exfalso; omega
      · skip
        refine go_ifq PM26 (k := 7) (p1 := 60) (p2 := 29) (L' := [some (.inr (.inr (some 35))), some (.inl p1), some (.inl 1), some (.inl p1), none]) (st' := []) (w' := (SH, dt)) rfl (c_eq (a := p1) (b := 8) (by first | exact bnd h_p1 (by decide) (by decide) | exact ⟨by omega, by omega⟩) ⟨by decide, by decide⟩) (fun c114 => ?_) (fun c114 => ?_)
        · exfalso; omega
        · skip
          refine go_toq PM26 (k := 2) (pc' := 31) (L' := [some (.inr (.inr (some 35))), some (.inl p1), some (.inl 1), some (.inl p1), none]) (st' := [.inl 4, .inr (.inr (some 35))]) (w' := (SH, dt)) rfl ?_
          refine go_callq PM26 PM24 (Q' := _) rfl rfl rfl rfl (sp_X1_oneOf_f L xs sio (d + 1) dt hI K V S t hz ht 4 ⟨by decide, by decide⟩ (by first | assumption | exact TKc_fr h_p0 hF (by decide) (by decide) (by decide) (by omega) | omega) (by first | assumption | exact TKc_fr h_p0 hF (by decide) (by decide) (by decide) (by omega) | omega) (by first | assumption | exact TKc_fr h_p0 hF (by decide) (by decide) (by decide) (by omega) | omega)) ?_
          rintro _ _ ⟨dt116, rfl, hI117, hF118, h115⟩
          refine ⟨rfl, ?_⟩
          have hF119 : Fr [35] dt dt116 := Fr_tr hF hF118 (by decide)
          rcases h115 with ⟨v_h115, rfl, h115r, h115⟩
          obtain ⟨h115_0, h115_1, h115_2, h115_3, h115_4, h115_5, h115_6, h115_7⟩ := h115
          have ha1_ := SPX_at h115_0 (by omega) (by omega) (fun _ z_ => gA_at z_)
          have hv1_ : dt116 35 2 = 0 → v_h115 = V (dt 35 8).toNat := h115_4
          have X120 : PX S t (gAc K V p1) (gA0 K V p1 (V (dt 35 8).toNat)) dt dt116 := PX_st PX_0 h115_0 (fun hl => by first | exact gAc_n (by omega) | (exfalso; omega))
          have r121 : -2147483648 ≤ am_shl v_h115 4 ∧ am_shl v_h115 4 ≤ 2147483647 := am_shl_R
          have r122 : -2147483648 ≤ am_or p1 (am_shl v_h115 4) ∧ am_or p1 (am_shl v_h115 4) ≤ 2147483647 := am_or_R
          refine go_ifq PM26 (k := 9) (p1 := 60) (p2 := 48) (L' := [some (.inr (.inr (some 35))), some (.inl p1), some (.inl 1), some (.inl (am_or p1 (am_shl v_h115 4))), some (.inl v_h115)]) (st' := []) (w' := (SH, dt116)) rfl (c_ne (a := p1) (b := 4) (by first | exact bnd h_p1 (by decide) (by decide) | exact ⟨by omega, by omega⟩) ⟨by decide, by decide⟩) (fun c123 => ?_) (fun c123 => ?_)
          · skip
            refine go_toq PM26 (k := 5) (pc' := 67) (L' := [some (.inr (.inr (some 35))), some (.inl p1), some (.inl 1), some (.inl (am_or p1 (am_shl v_h115 4))), some (.inl v_h115)]) (st' := [.inl 3, .inr (.inr (some 35)), .inl (am_or p1 (am_shl v_h115 4))]) (w' := (SH, dt116)) rfl ?_
            refine go_callq PM26 PM24 (Q' := _) rfl rfl rfl rfl (sp_X1_oneOf_f L xs sio (d + 1) dt116 hI117 K V S t hz ht 3 ⟨by decide, by decide⟩ (by first | assumption | exact TKc_fr h_p0 hF119 (by decide) (by decide) (by decide) (by omega) | omega) (by first | assumption | exact TKc_fr h_p0 hF119 (by decide) (by decide) (by decide) (by omega) | omega) (by first | assumption | exact TKc_fr h_p0 hF119 (by decide) (by decide) (by decide) (by omega) | omega)) ?_
            rintro _ _ ⟨dt125, rfl, hI126, hF127, h124⟩
            refine ⟨rfl, ?_⟩
            have hF128 : Fr [35] dt dt125 := Fr_tr hF119 hF127 (by decide)
            rcases h124 with ⟨v_h124, rfl, h124r, h124⟩
            obtain ⟨h124_0, h124_1, h124_2, h124_3, h124_4, h124_5, h124_6, h124_7⟩ := h124
            have ha2_ := SPX_at h124_0 (by omega) (by omega) (fun _ z_ => gA_at z_)
            have hv2_ : dt125 35 2 = 0 → v_h124 = V (dt116 35 8).toNat := h124_4
            have X129 : PX S t (gAc K V p1) (gA2 K V p1) dt dt125 := PX_st X120 h124_0 (fun hl => by first | ((repeat (first | rw [gA0_n (by omega)] | rw [gA1_n (by omega)] | rw [gA2_n (by omega)] | rw [gA3_n (by omega)])); exact gA1_p (by omega)) | (exfalso; omega))
            have r130 : -2147483648 ≤ am_shl v_h124 8 ∧ am_shl v_h124 8 ≤ 2147483647 := am_shl_R
            have r131 : -2147483648 ≤ am_or (am_or p1 (am_shl v_h115 4)) (am_shl v_h124 8) ∧ am_or (am_or p1 (am_shl v_h115 4)) (am_shl v_h124 8) ≤ 2147483647 := am_or_R
            refine go_toq PM26 (k := 9) (pc' := 87) (L' := [some (.inr (.inr (some 35))), some (.inl p1), some (.inl 1), some (.inl (am_or (am_or p1 (am_shl v_h115 4)) (am_shl v_h124 8))), some (.inl v_h115)]) (st' := [.inl 4, .inr (.inr (some 35)), .inl (am_or (am_or p1 (am_shl v_h115 4)) (am_shl v_h124 8))]) (w' := (SH, dt125)) rfl ?_
            refine go_callq PM26 PM24 (Q' := _) rfl rfl rfl rfl (sp_X1_oneOf_f L xs sio (d + 1) dt125 hI126 K V S t hz ht 4 ⟨by decide, by decide⟩ (by first | assumption | exact TKc_fr h_p0 hF128 (by decide) (by decide) (by decide) (by omega) | omega) (by first | assumption | exact TKc_fr h_p0 hF128 (by decide) (by decide) (by decide) (by omega) | omega) (by first | assumption | exact TKc_fr h_p0 hF128 (by decide) (by decide) (by decide) (by omega) | omega)) ?_
            rintro _ _ ⟨dt133, rfl, hI134, hF135, h132⟩
            refine ⟨rfl, ?_⟩
            have hF136 : Fr [35] dt dt133 := Fr_tr hF128 hF135 (by decide)
            rcases h132 with ⟨v_h132, rfl, h132r, h132⟩
            obtain ⟨h132_0, h132_1, h132_2, h132_3, h132_4, h132_5, h132_6, h132_7⟩ := h132
            have ha3_ := SPX_at h132_0 (by omega) (by omega) (fun _ z_ => gA_at z_)
            have hv3_ : dt133 35 2 = 0 → v_h132 = V (dt125 35 8).toNat := h132_4
            have X137 : PX S t (gAc K V p1) (gA3 K V p1) dt dt133 := PX_st X129 h132_0 (fun hl => by first | ((repeat (first | rw [gA0_n (by omega)] | rw [gA1_n (by omega)] | rw [gA2_n (by omega)] | rw [gA3_n (by omega)])); exact gA2_p (by omega)) | (exfalso; omega))
            have r138 : -2147483648 ≤ am_shl v_h132 10 ∧ am_shl v_h132 10 ≤ 2147483647 := am_shl_R
            have r139 : -2147483648 ≤ am_or (am_or (am_or p1 (am_shl v_h115 4)) (am_shl v_h124 8)) (am_shl v_h132 10) ∧ am_or (am_or (am_or p1 (am_shl v_h115 4)) (am_shl v_h124 8)) (am_shl v_h132 10) ≤ 2147483647 := am_or_R
            refine go_ifq PM26 (k := 6) (p1 := 112) (p2 := 101) (L' := [some (.inr (.inr (some 35))), some (.inl p1), some (.inl 1), some (.inl (am_or (am_or (am_or p1 (am_shl v_h115 4)) (am_shl v_h124 8)) (am_shl v_h132 10))), some (.inl v_h115)]) (st' := []) (w' := (SH, dt133)) rfl (c_ne (a := p1) (b := 6) (by first | exact bnd h_p1 (by decide) (by decide) | exact ⟨by omega, by omega⟩) ⟨by decide, by decide⟩) (fun c140 => ?_) (fun c140 => ?_)
            · skip
              refine go_ifq PM26 (k := 2) (p1 := 129) (p2 := 118) (L' := [some (.inr (.inr (some 35))), some (.inl p1), some (.inl 1), some (.inl (am_or (am_or (am_or p1 (am_shl v_h115 4)) (am_shl v_h124 8)) (am_shl v_h132 10))), some (.inl v_h115)]) (st' := []) (w' := (SH, dt133)) rfl (c_ne (a := p1) (b := 8) (by first | exact bnd h_p1 (by decide) (by decide) | exact ⟨by omega, by omega⟩) ⟨by decide, by decide⟩) (fun c141 => ?_) (fun c141 => ?_)
              · skip
                refine go_retq PM26 (k := 1) (r := some (.inl (am_or (am_or (am_or p1 (am_shl v_h115 4)) (am_shl v_h124 8)) (am_shl v_h132 10)))) (w1 := (SH, dt133)) rfl ?_
                exact ⟨dt133, rfl, hI134, hF136, ⟨_, rfl, (by first | exact bnd r139 (by decide) (by decide) | exact ⟨by omega, by omega⟩), ⟨by first | exact PX_e X137 (by omega) | exact PX_e (PX_g X137 (fun _ => by first | ((repeat (first | rw [gA0_n (by omega)] | rw [gA1_n (by omega)] | rw [gA2_n (by omega)] | rw [gA3_n (by omega)])); done) | (exfalso; omega))) (by omega), by first | exact True.intro | assumption | rfl | omega | trivial, by first | exact True.intro | assumption | rfl | omega | trivial, by first | exact True.intro | assumption | rfl | omega | trivial, by intro z_; first | exact AE_2 (by omega) ⟨by omega, by omega⟩ ⟨by omega, by omega⟩ ⟨by omega, by omega⟩ (hv1_ (by omega)) (by have y_ := hv2_ (by omega); rw [y_]; congr 1; omega) (by have y_ := hv3_ (by omega); rw [y_]; congr 1; omega) rfl | (exfalso; omega), by first | exact True.intro | assumption | rfl | omega | trivial, by first | exact True.intro | assumption | rfl | omega | trivial⟩⟩⟩
              · exfalso; omega
            · exfalso; omega
          · skip
            refine go_toq PM26 (k := 3) (pc' := 52) (L' := [some (.inr (.inr (some 35))), some (.inl p1), some (.inl 1), some (.inl (am_or p1 (am_shl v_h115 4))), some (.inl v_h115)]) (st' := [.inl v_h115, .inr (.inr (some 35)), .inl (am_or p1 (am_shl v_h115 4))]) (w' := (SH, dt116)) rfl ?_
            refine go_callq PM26 PM27 (Q' := _) rfl rfl rfl rfl (sp_X1_readOther_f L xs sio (d + 0) dt116 hI117 K V S t hz ht v_h115 (by first | exact bnd h115r (by decide) (by decide) | exact ⟨by omega, by omega⟩) (by first | assumption | exact TKc_fr h_p0 hF119 (by decide) (by decide) (by decide) (by omega) | omega) (by first | assumption | exact TKc_fr h_p0 hF119 (by decide) (by decide) (by decide) (by omega) | omega) (by first | assumption | exact TKc_fr h_p0 hF119 (by decide) (by decide) (by decide) (by omega) | omega)) ?_
            rintro _ _ ⟨dt143, rfl, hI144, hF145, h142⟩
            refine ⟨rfl, ?_⟩
            have hF146 : Fr [35] dt dt143 := Fr_tr hF119 hF145 (by decide)
            rcases h142 with ⟨v_h142, rfl, h142r, h142⟩
            obtain ⟨h142_0, h142_1, h142_2, h142_3, h142_4, h142_5, h142_6, h142_7, h142_8⟩ := h142
            have ha2_ := SPX_at h142_0 (by omega) (by omega) (fun _ z_ => gOt_at z_)
            have hv2_ : dt143 35 2 = 0 → v_h142 = V (dt116 35 8).toNat := h142_5
            have X147 : PX S t (gAc K V p1) (gA1 K V p1) dt dt143 := PX_st X120 h142_0 (fun hl => by first | (rw [gA0_p (by omega), h115_4 hl]) | (exfalso; omega))
            have r148 : -2147483648 ≤ am_shl v_h142 6 ∧ am_shl v_h142 6 ≤ 2147483647 := am_shl_R
            have r149 : -2147483648 ≤ am_or (am_or p1 (am_shl v_h115 4)) (am_shl v_h142 6) ∧ am_or (am_or p1 (am_shl v_h115 4)) (am_shl v_h142 6) ≤ 2147483647 := am_or_R
            refine go_toq PM26 (k := 9) (pc' := 67) (L' := [some (.inr (.inr (some 35))), some (.inl p1), some (.inl 1), some (.inl (am_or (am_or p1 (am_shl v_h115 4)) (am_shl v_h142 6))), some (.inl v_h115)]) (st' := [.inl 3, .inr (.inr (some 35)), .inl (am_or (am_or p1 (am_shl v_h115 4)) (am_shl v_h142 6))]) (w' := (SH, dt143)) rfl ?_
            refine go_callq PM26 PM24 (Q' := _) rfl rfl rfl rfl (sp_X1_oneOf_f L xs sio (d + 1) dt143 hI144 K V S t hz ht 3 ⟨by decide, by decide⟩ (by first | assumption | exact TKc_fr h_p0 hF146 (by decide) (by decide) (by decide) (by omega) | omega) (by first | assumption | exact TKc_fr h_p0 hF146 (by decide) (by decide) (by decide) (by omega) | omega) (by first | assumption | exact TKc_fr h_p0 hF146 (by decide) (by decide) (by decide) (by omega) | omega)) ?_
            rintro _ _ ⟨dt151, rfl, hI152, hF153, h150⟩
            refine ⟨rfl, ?_⟩
            have hF154 : Fr [35] dt dt151 := Fr_tr hF146 hF153 (by decide)
            rcases h150 with ⟨v_h150, rfl, h150r, h150⟩
            obtain ⟨h150_0, h150_1, h150_2, h150_3, h150_4, h150_5, h150_6, h150_7⟩ := h150
            have ha3_ := SPX_at h150_0 (by omega) (by omega) (fun _ z_ => gA_at z_)
            have hv3_ : dt151 35 2 = 0 → v_h150 = V (dt143 35 8).toNat := h150_4
            have X155 : PX S t (gAc K V p1) (gA2 K V p1) dt dt151 := PX_st X147 h150_0 (fun hl => by first | ((repeat (first | rw [gA0_n (by omega)] | rw [gA1_n (by omega)] | rw [gA2_n (by omega)] | rw [gA3_n (by omega)])); exact gA1_p (by omega)) | (exfalso; omega))
            have r156 : -2147483648 ≤ am_shl v_h150 8 ∧ am_shl v_h150 8 ≤ 2147483647 := am_shl_R
            have r157 : -2147483648 ≤ am_or (am_or (am_or p1 (am_shl v_h115 4)) (am_shl v_h142 6)) (am_shl v_h150 8) ∧ am_or (am_or (am_or p1 (am_shl v_h115 4)) (am_shl v_h142 6)) (am_shl v_h150 8) ≤ 2147483647 := am_or_R
            refine go_toq PM26 (k := 9) (pc' := 87) (L' := [some (.inr (.inr (some 35))), some (.inl p1), some (.inl 1), some (.inl (am_or (am_or (am_or p1 (am_shl v_h115 4)) (am_shl v_h142 6)) (am_shl v_h150 8))), some (.inl v_h115)]) (st' := [.inl 4, .inr (.inr (some 35)), .inl (am_or (am_or (am_or p1 (am_shl v_h115 4)) (am_shl v_h142 6)) (am_shl v_h150 8))]) (w' := (SH, dt151)) rfl ?_
            refine go_callq PM26 PM24 (Q' := _) rfl rfl rfl rfl (sp_X1_oneOf_f L xs sio (d + 1) dt151 hI152 K V S t hz ht 4 ⟨by decide, by decide⟩ (by first | assumption | exact TKc_fr h_p0 hF154 (by decide) (by decide) (by decide) (by omega) | omega) (by first | assumption | exact TKc_fr h_p0 hF154 (by decide) (by decide) (by decide) (by omega) | omega) (by first | assumption | exact TKc_fr h_p0 hF154 (by decide) (by decide) (by decide) (by omega) | omega)) ?_
            rintro _ _ ⟨dt159, rfl, hI160, hF161, h158⟩
            refine ⟨rfl, ?_⟩
            have hF162 : Fr [35] dt dt159 := Fr_tr hF154 hF161 (by decide)
            rcases h158 with ⟨v_h158, rfl, h158r, h158⟩
            obtain ⟨h158_0, h158_1, h158_2, h158_3, h158_4, h158_5, h158_6, h158_7⟩ := h158
            have ha4_ := SPX_at h158_0 (by omega) (by omega) (fun _ z_ => gA_at z_)
            have hv4_ : dt159 35 2 = 0 → v_h158 = V (dt151 35 8).toNat := h158_4
            have X163 : PX S t (gAc K V p1) (gA3 K V p1) dt dt159 := PX_st X155 h158_0 (fun hl => by first | ((repeat (first | rw [gA0_n (by omega)] | rw [gA1_n (by omega)] | rw [gA2_n (by omega)] | rw [gA3_n (by omega)])); exact gA2_p (by omega)) | (exfalso; omega))
            have r164 : -2147483648 ≤ am_shl v_h158 10 ∧ am_shl v_h158 10 ≤ 2147483647 := am_shl_R
            have r165 : -2147483648 ≤ am_or (am_or (am_or (am_or p1 (am_shl v_h115 4)) (am_shl v_h142 6)) (am_shl v_h150 8)) (am_shl v_h158 10) ∧ am_or (am_or (am_or (am_or p1 (am_shl v_h115 4)) (am_shl v_h142 6)) (am_shl v_h150 8)) (am_shl v_h158 10) ≤ 2147483647 := am_or_R
            refine go_ifq PM26 (k := 6) (p1 := 112) (p2 := 101) (L' := [some (.inr (.inr (some 35))), some (.inl p1), some (.inl 1), some (.inl (am_or (am_or (am_or (am_or p1 (am_shl v_h115 4)) (am_shl v_h142 6)) (am_shl v_h150 8)) (am_shl v_h158 10))), some (.inl v_h115)]) (st' := []) (w' := (SH, dt159)) rfl (c_ne (a := p1) (b := 6) (by first | exact bnd h_p1 (by decide) (by decide) | exact ⟨by omega, by omega⟩) ⟨by decide, by decide⟩) (fun c166 => ?_) (fun c166 => ?_)
            · skip
              refine go_ifq PM26 (k := 2) (p1 := 129) (p2 := 118) (L' := [some (.inr (.inr (some 35))), some (.inl p1), some (.inl 1), some (.inl (am_or (am_or (am_or (am_or p1 (am_shl v_h115 4)) (am_shl v_h142 6)) (am_shl v_h150 8)) (am_shl v_h158 10))), some (.inl v_h115)]) (st' := []) (w' := (SH, dt159)) rfl (c_ne (a := p1) (b := 8) (by first | exact bnd h_p1 (by decide) (by decide) | exact ⟨by omega, by omega⟩) ⟨by decide, by decide⟩) (fun c167 => ?_) (fun c167 => ?_)
              · skip
                refine go_retq PM26 (k := 1) (r := some (.inl (am_or (am_or (am_or (am_or p1 (am_shl v_h115 4)) (am_shl v_h142 6)) (am_shl v_h150 8)) (am_shl v_h158 10)))) (w1 := (SH, dt159)) rfl ?_
                exact ⟨dt159, rfl, hI160, hF162, ⟨_, rfl, (by first | exact bnd r165 (by decide) (by decide) | exact ⟨by omega, by omega⟩), ⟨by first | exact PX_e X163 (by omega) | exact PX_e (PX_g X163 (fun _ => by first | ((repeat (first | rw [gA0_n (by omega)] | rw [gA1_n (by omega)] | rw [gA2_n (by omega)] | rw [gA3_n (by omega)])); done) | (exfalso; omega))) (by omega), by first | exact True.intro | assumption | rfl | omega | trivial, by first | exact True.intro | assumption | rfl | omega | trivial, by first | exact True.intro | assumption | rfl | omega | trivial, by intro z_; first | exact AE_4 (by omega) ⟨by omega, by omega⟩ ⟨by omega, by omega⟩ ⟨by omega, by omega⟩ ⟨by omega, by omega⟩ (by omega) (hv1_ (by omega)) (by have y_ := hv2_ (by omega); rw [y_]; congr 1; omega) (by have y_ := hv3_ (by omega); rw [y_]; congr 1; omega) (by have y_ := hv4_ (by omega); rw [y_]; congr 1; omega) rfl | (exfalso; omega), by first | exact True.intro | assumption | rfl | omega | trivial, by first | exact True.intro | assumption | rfl | omega | trivial⟩⟩⟩
              · exfalso; omega
            · exfalso; omega
theorem sp_X1_unit_f (L : Nat) (xs : Nat → Int32) (sio : Option Nat) (d : Nat) (dt : Nat → Nat → Int) (hI : InvC dt) (K V S : Nat → Int) (t : Nat) (hz : KZ K t) (ht : t ≤ 500)  (h_p0 : TKc K V S t dt) (h_p1 : 0 ≤ dt 35 8 ∧ dt 35 8 ≤ (t : Int)) (h_p2 : ¬ dt 35 2 = 0 → dt 35 8 = (t : Int)) : GO (am_XX L xs sio) (d + 1) 35 0 [some (.inr (.inr (some 35))), none, none] [] (SH, dt) (fun r w2 => ∃ dt2 : Nat → Nat → Int, w2 = (SH, dt2) ∧ InvC dt2 ∧ Fr [35, 42] dt dt2 ∧ ((r = none ∧ (SPX S t dt dt2 (gU K)) ∧ (0 ≤ dt2 35 8 ∧ dt2 35 8 ≤ (t : Int)) ∧ (¬ dt2 35 2 = 0 → dt2 35 8 = (t : Int)) ∧ (dt 35 8 ≤ dt2 35 8) ∧ (dt2 35 1 = dt 35 1) ∧ (dt2 35 7 = dt 35 7)))) := by
  have hF : Fr [35, 42] dt dt := Fr_refl
  have h7 : dt 35 7 = (t : Int) + 1 := h_p0.1
  have hk0 := TKc_k h_p0 h_p1
  have hv0 := TKc_v h_p0 h_p1
  have hs0 := TKc_s h_p0 h_p1
  refine go_toq PM35 (k := 1) (pc' := 1) (L' := [some (.inr (.inr (some 35))), none, none]) (st' := [.inr (.inr (some 35))]) (w' := (SH, dt)) rfl ?_
  refine go_callq PM35 PM23 (Q' := _) rfl rfl rfl rfl (sp_X1_nextNumber_f L xs sio (d + 0) dt hI K V S t hz ht  (by first | assumption | exact TKc_fr h_p0 hF (by decide) (by decide) (by decide) (by omega) | omega) (by first | assumption | exact TKc_fr h_p0 hF (by decide) (by decide) (by decide) (by omega) | omega) (by first | assumption | exact TKc_fr h_p0 hF (by decide) (by decide) (by decide) (by omega) | omega)) ?_
  rintro _ _ ⟨rfl, h1⟩
  refine ⟨rfl, ?_⟩
  rcases h1 with ⟨v_h1, rfl, h1r, h1⟩ | ⟨rfl, h1⟩
  · skip
    obtain ⟨h1_0, h1_1⟩ := h1
    refine go_toq PM35 (k := 2) (pc' := 6) (L' := [some (.inr (.inr (some 35))), some (.inl v_h1), none]) (st' := [.inr (.inr (some 35))]) (w' := (SH, dt)) rfl ?_
    refine go_callq PM35 PM20 (Q' := _) rfl rfl rfl rfl (sp_X1_token_f L xs sio (d + 0) dt hI K V S t hz ht  (by first | assumption | exact TKc_fr h_p0 hF (by decide) (by decide) (by decide) (by omega) | omega) (by first | assumption | exact TKc_fr h_p0 hF (by decide) (by decide) (by decide) (by omega) | omega) (by first | assumption | exact TKc_fr h_p0 hF (by decide) (by decide) (by decide) (by omega) | omega)) ?_
    rintro _ _ ⟨rfl, h3⟩
    refine ⟨rfl, ?_⟩
    rcases h3 with ⟨v_h3, rfl, h3r, h3⟩
    refine go_ifq PM35 (k := 5) (p1 := 37) (p2 := 19) (L' := [some (.inr (.inr (some 35))), some (.inl v_h1), some (.inl (v_h3 - 1006))]) (st' := []) (w' := (SH, dt)) rfl (c_eq (a := v_h1) (b := (-1)) (by first | exact bnd h1r (by decide) (by decide) | exact ⟨by omega, by omega⟩) ⟨by decide, by decide⟩) (fun c5 => ?_) (fun c5 => ?_)
    · exfalso; omega
    · skip
      refine go_toq PM35 (k := 2) (pc' := 21) (L' := [some (.inr (.inr (some 35))), some (.inl v_h1), some (.inl (v_h3 - 1006))]) (st' := [.inl v_h1, .inr (.inr (some 35))]) (w' := (SH, dt)) rfl ?_
      refine go_callq PM35 PM30 (Q' := _) rfl rfl rfl rfl (sp_X1_emit_f L xs sio (d + 0) dt hI  v_h1 (by first | exact bnd h1r (by decide) (by decide) | exact ⟨by omega, by omega⟩) ) ?_
      rintro _ _ ⟨dt7, rfl, hI8, hF9, h6⟩
      refine ⟨rfl, ?_⟩
      have hF10 : Fr [35, 42] dt dt7 := Fr_tr hF hF9 (by decide)
      rcases h6 with ⟨rfl, h6⟩
      obtain ⟨h6_0, h6_1, h6_2, h6_3, h6_4⟩ := h6
      have X11 : PX S t (gU K) (gU K) dt dt7 := PX_sm PX_0 (by omega) (by omega) (by omega)
      have ek12 : (dt7 35 8).toNat = (dt 35 8).toNat := by omega
      have kk13 : K (dt7 35 8).toNat = K (dt 35 8).toNat := congrArg K ek12
      have kk14 : V (dt7 35 8).toNat = V (dt 35 8).toNat := congrArg V ek12
      refine go_toq PM35 (k := 5) (pc' := 31) (L' := [some (.inr (.inr (some 35))), some (.inl v_h1), some (.inl (v_h3 - 1006))]) (st' := [.inl ((dt7 35 8) + 1), .inr (.inr (some 35))]) (w' := (SH, dt7)) rfl ?_
      have hI15 : InvC (u2 dt7 35 8 ((dt7 35 8) + 1)) := InvC_u2 hI8 (lo := -2147483648) (hi := 2147483647) rfl rfl rfl (by omega) (by omega)
      have hF16 : Fr [35, 42] dt (u2 dt7 35 8 ((dt7 35 8) + 1)) := Fr_u2 hF10 (by decide)
      have w17 : (u2 dt7 35 8 ((dt7 35 8) + 1)) 35 1 = dt7 35 1 := rfl
      have w18 : (u2 dt7 35 8 ((dt7 35 8) + 1)) 35 2 = dt7 35 2 := rfl
      have w19 : (u2 dt7 35 8 ((dt7 35 8) + 1)) 35 3 = dt7 35 3 := rfl
      have w20 : (u2 dt7 35 8 ((dt7 35 8) + 1)) 35 7 = dt7 35 7 := rfl
      have w21 : (u2 dt7 35 8 ((dt7 35 8) + 1)) 35 8 = (dt7 35 8) + 1 := rfl
      have lv23 := KLIVE hz (D := dt7) (by omega) (by omega) (by omega)
      have X22 : PX S t (gU K) gOk dt (u2 dt7 35 8 ((dt7 35 8) + 1)) := PX_st X11 (SPX_inc hz (by omega) (by omega) (by omega) (by omega) (by omega)) (fun hl => by first | (show (gU K) (dt7 35 8).toNat = gOk ((dt7 35 8).toNat + 1); unfold gU; rw [if_pos (by omega)]; rfl) | (exfalso; omega))
      refine go_smpq PM35 (L' := [some (.inr (.inr (some 35))), some (.inl v_h1), some (.inl (v_h3 - 1006))]) (st' := []) (w' := (SH, (u2 dt7 35 8 ((dt7 35 8) + 1)))) rfl rfl (s_pf rfl rfl rfl rfl ⟨by omega, by omega⟩) ?_
      refine go_retq PM35 (k := 1) (r := none) (w1 := (SH, (u2 dt7 35 8 ((dt7 35 8) + 1)))) rfl ?_
      exact ⟨(u2 dt7 35 8 ((dt7 35 8) + 1)), rfl, hI15, hF16, ⟨rfl, ⟨by exact PX_e X22 (by omega), by first | exact True.intro | assumption | rfl | omega | trivial, by first | exact True.intro | assumption | rfl | omega | trivial, by first | exact True.intro | assumption | rfl | omega | trivial, by first | exact True.intro | assumption | rfl | omega | trivial, by first | exact True.intro | assumption | rfl | omega | trivial⟩⟩⟩
  · skip
    refine go_toq PM35 (k := 2) (pc' := 6) (L' := [some (.inr (.inr (some 35))), some (.inl (-1)), none]) (st' := [.inr (.inr (some 35))]) (w' := (SH, dt)) rfl ?_
    refine go_callq PM35 PM20 (Q' := _) rfl rfl rfl rfl (sp_X1_token_f L xs sio (d + 0) dt hI K V S t hz ht  (by first | assumption | exact TKc_fr h_p0 hF (by decide) (by decide) (by decide) (by omega) | omega) (by first | assumption | exact TKc_fr h_p0 hF (by decide) (by decide) (by decide) (by omega) | omega) (by first | assumption | exact TKc_fr h_p0 hF (by decide) (by decide) (by decide) (by omega) | omega)) ?_
    rintro _ _ ⟨rfl, h25⟩
    refine ⟨rfl, ?_⟩
    rcases h25 with ⟨v_h25, rfl, h25r, h25⟩
    refine go_ifq PM35 (k := 7) (p1 := 68) (p2 := 41) (L' := [some (.inr (.inr (some 35))), some (.inl (-1)), some (.inl (v_h25 - 1006))]) (st' := []) (w' := (SH, dt)) rfl (z_lt (a := v_h25 - 1006) ⟨by omega, by omega⟩) (fun c27 => ?_) (fun c27 => ?_)
    · skip
      refine go_toq PM35 (k := 2) (pc' := 70) (L' := [some (.inr (.inr (some 35))), some (.inl (-1)), some (.inl (v_h25 - 1006))]) (st' := [.inl 1, .inr (.inr (some 35))]) (w' := (SH, dt)) rfl ?_
      refine go_callq PM35 PM21 (Q' := _) rfl rfl rfl rfl (sp_X1_fail_f L xs sio (d + 0) dt hI K V S t hz ht 1 ⟨by decide, by decide⟩ (by first | assumption | exact TKc_fr h_p0 hF (by decide) (by decide) (by decide) (by omega) | omega) (by first | assumption | exact TKc_fr h_p0 hF (by decide) (by decide) (by decide) (by omega) | omega) (by first | assumption | exact TKc_fr h_p0 hF (by decide) (by decide) (by decide) (by omega) | omega)) ?_
      rintro _ _ ⟨dt29, rfl, hI30, hF31, h28⟩
      refine ⟨rfl, ?_⟩
      have hF32 : Fr [35, 42] dt dt29 := Fr_tr hF hF31 (by decide)
      rcases h28 with ⟨rfl, h28⟩
      obtain ⟨h28_0, h28_1, h28_2, h28_3, h28_4⟩ := h28
      have X33 : PX S t (gU K) gOk dt dt29 := PX_st PX_0 h28_0 (fun hl => by first | exact (by unfold gU; rw [if_neg (by omega)] : _ = ((1 : Int), (dt 35 8).toNat)).trans (gB_no (by show ¬ ((1 : Int) = 0); omega)).symm | (exfalso; omega))
      refine go_retq PM35 (k := 0) (r := none) (w1 := (SH, dt29)) rfl ?_
      exact ⟨dt29, rfl, hI30, hF32, ⟨rfl, ⟨by exact PX_e X33 (by omega), by first | exact True.intro | assumption | rfl | omega | trivial, by first | exact True.intro | assumption | rfl | omega | trivial, by first | exact True.intro | assumption | rfl | omega | trivial, by first | exact True.intro | assumption | rfl | omega | trivial, by first | exact True.intro | assumption | rfl | omega | trivial⟩⟩⟩
    · skip
      refine go_ifq PM35 (k := 2) (p1 := 68) (p2 := 47) (L' := [some (.inr (.inr (some 35))), some (.inl (-1)), some (.inl (v_h25 - 1006))]) (st' := []) (w' := (SH, dt)) rfl (c_ge (a := v_h25 - 1006) (b := 6) ⟨by omega, by omega⟩ ⟨by decide, by decide⟩) (fun c34 => ?_) (fun c34 => ?_)
      · skip
        refine go_toq PM35 (k := 2) (pc' := 70) (L' := [some (.inr (.inr (some 35))), some (.inl (-1)), some (.inl (v_h25 - 1006))]) (st' := [.inl 1, .inr (.inr (some 35))]) (w' := (SH, dt)) rfl ?_
        refine go_callq PM35 PM21 (Q' := _) rfl rfl rfl rfl (sp_X1_fail_f L xs sio (d + 0) dt hI K V S t hz ht 1 ⟨by decide, by decide⟩ (by first | assumption | exact TKc_fr h_p0 hF (by decide) (by decide) (by decide) (by omega) | omega) (by first | assumption | exact TKc_fr h_p0 hF (by decide) (by decide) (by decide) (by omega) | omega) (by first | assumption | exact TKc_fr h_p0 hF (by decide) (by decide) (by decide) (by omega) | omega)) ?_
        rintro _ _ ⟨dt36, rfl, hI37, hF38, h35⟩
        refine ⟨rfl, ?_⟩
        have hF39 : Fr [35, 42] dt dt36 := Fr_tr hF hF38 (by decide)
        rcases h35 with ⟨rfl, h35⟩
        obtain ⟨h35_0, h35_1, h35_2, h35_3, h35_4⟩ := h35
        have X40 : PX S t (gU K) gOk dt dt36 := PX_st PX_0 h35_0 (fun hl => by first | exact (by unfold gU; rw [if_neg (by omega)] : _ = ((1 : Int), (dt 35 8).toNat)).trans (gB_no (by show ¬ ((1 : Int) = 0); omega)).symm | (exfalso; omega))
        refine go_retq PM35 (k := 0) (r := none) (w1 := (SH, dt36)) rfl ?_
        exact ⟨dt36, rfl, hI37, hF39, ⟨rfl, ⟨by exact PX_e X40 (by omega), by first | exact True.intro | assumption | rfl | omega | trivial, by first | exact True.intro | assumption | rfl | omega | trivial, by first | exact True.intro | assumption | rfl | omega | trivial, by first | exact True.intro | assumption | rfl | omega | trivial, by first | exact True.intro | assumption | rfl | omega | trivial⟩⟩⟩
      · skip
        refine go_toq PM35 (k := 4) (pc' := 52) (L' := [some (.inr (.inr (some 35))), some (.inl (-1)), some (.inl (v_h25 - 1006))]) (st' := [.inl ((-11) - (v_h25 - 1006)), .inr (.inr (some 35))]) (w' := (SH, dt)) rfl ?_
        refine go_callq PM35 PM30 (Q' := _) rfl rfl rfl rfl (sp_X1_emit_f L xs sio (d + 0) dt hI  ((-11) - (v_h25 - 1006)) ⟨by omega, by omega⟩ ) ?_
        rintro _ _ ⟨dt42, rfl, hI43, hF44, h41⟩
        refine ⟨rfl, ?_⟩
        have hF45 : Fr [35, 42] dt dt42 := Fr_tr hF hF44 (by decide)
        rcases h41 with ⟨rfl, h41⟩
        obtain ⟨h41_0, h41_1, h41_2, h41_3, h41_4⟩ := h41
        have X46 : PX S t (gU K) (gU K) dt dt42 := PX_sm PX_0 (by omega) (by omega) (by omega)
        have ek47 : (dt42 35 8).toNat = (dt 35 8).toNat := by omega
        have kk48 : K (dt42 35 8).toNat = K (dt 35 8).toNat := congrArg K ek47
        have kk49 : V (dt42 35 8).toNat = V (dt 35 8).toNat := congrArg V ek47
        refine go_toq PM35 (k := 5) (pc' := 62) (L' := [some (.inr (.inr (some 35))), some (.inl (-1)), some (.inl (v_h25 - 1006))]) (st' := [.inl ((dt42 35 8) + 1), .inr (.inr (some 35))]) (w' := (SH, dt42)) rfl ?_
        have hI50 : InvC (u2 dt42 35 8 ((dt42 35 8) + 1)) := InvC_u2 hI43 (lo := -2147483648) (hi := 2147483647) rfl rfl rfl (by omega) (by omega)
        have hF51 : Fr [35, 42] dt (u2 dt42 35 8 ((dt42 35 8) + 1)) := Fr_u2 hF45 (by decide)
        have w52 : (u2 dt42 35 8 ((dt42 35 8) + 1)) 35 1 = dt42 35 1 := rfl
        have w53 : (u2 dt42 35 8 ((dt42 35 8) + 1)) 35 2 = dt42 35 2 := rfl
        have w54 : (u2 dt42 35 8 ((dt42 35 8) + 1)) 35 3 = dt42 35 3 := rfl
        have w55 : (u2 dt42 35 8 ((dt42 35 8) + 1)) 35 7 = dt42 35 7 := rfl
        have w56 : (u2 dt42 35 8 ((dt42 35 8) + 1)) 35 8 = (dt42 35 8) + 1 := rfl
        have lv58 := KLIVE hz (D := dt42) (by omega) (by omega) (by omega)
        have X57 : PX S t (gU K) gOk dt (u2 dt42 35 8 ((dt42 35 8) + 1)) := PX_st X46 (SPX_inc hz (by omega) (by omega) (by omega) (by omega) (by omega)) (fun hl => by first | (show (gU K) (dt42 35 8).toNat = gOk ((dt42 35 8).toNat + 1); unfold gU; rw [if_pos (by omega)]; rfl) | (exfalso; omega))
        refine go_smpq PM35 (L' := [some (.inr (.inr (some 35))), some (.inl (-1)), some (.inl (v_h25 - 1006))]) (st' := []) (w' := (SH, (u2 dt42 35 8 ((dt42 35 8) + 1)))) rfl rfl (s_pf rfl rfl rfl rfl ⟨by omega, by omega⟩) ?_
        refine go_retq PM35 (k := 1) (r := none) (w1 := (SH, (u2 dt42 35 8 ((dt42 35 8) + 1)))) rfl ?_
        exact ⟨(u2 dt42 35 8 ((dt42 35 8) + 1)), rfl, hI50, hF51, ⟨rfl, ⟨by exact PX_e X57 (by omega), by first | exact True.intro | assumption | rfl | omega | trivial, by first | exact True.intro | assumption | rfl | omega | trivial, by first | exact True.intro | assumption | rfl | omega | trivial, by first | exact True.intro | assumption | rfl | omega | trivial, by first | exact True.intro | assumption | rfl | omega | trivial⟩⟩⟩
theorem sp_X1_part_f (L : Nat) (xs : Nat → Int32) (sio : Option Nat) (d : Nat) (dt : Nat → Nat → Int) (hI : InvC dt) (K V S : Nat → Int) (t : Nat) (hz : KZ K t) (ht : t ≤ 500)  (h_p0 : TKc K V S t dt) (h_p1 : 0 ≤ dt 35 8 ∧ dt 35 8 ≤ (t : Int)) (h_p2 : ¬ dt 35 2 = 0 → dt 35 8 = (t : Int)) : GO (am_XX L xs sio) (d + 1) 34 0 [some (.inr (.inr (some 35))), none] [] (SH, dt) (fun r w2 => ∃ dt2 : Nat → Nat → Int, w2 = (SH, dt2) ∧ InvC dt2 ∧ Fr [35, 42] dt dt2 ∧ ((r = none ∧ (SPX S t dt dt2 (gD K V)) ∧ (0 ≤ dt2 35 8 ∧ dt2 35 8 ≤ (t : Int)) ∧ (¬ dt2 35 2 = 0 → dt2 35 8 = (t : Int)) ∧ (dt 35 8 ≤ dt2 35 8) ∧ (dt2 35 1 = dt 35 1) ∧ (dt2 35 7 = dt 35 7)))) := by
  have hF : Fr [35, 42] dt dt := Fr_refl
  have h7 : dt 35 7 = (t : Int) + 1 := h_p0.1
  have hk0 := TKc_k h_p0 h_p1
  have hv0 := TKc_v h_p0 h_p1
  have hs0 := TKc_s h_p0 h_p1
  refine go_toq PM34 (k := 1) (pc' := 1) (L' := [some (.inr (.inr (some 35))), none]) (st' := [.inr (.inr (some 35))]) (w' := (SH, dt)) rfl ?_
  refine go_callq PM34 PM23 (Q' := _) rfl rfl rfl rfl (sp_X1_nextNumber_f L xs sio (d + 0) dt hI K V S t hz ht  (by first | assumption | exact TKc_fr h_p0 hF (by decide) (by decide) (by decide) (by omega) | omega) (by first | assumption | exact TKc_fr h_p0 hF (by decide) (by decide) (by decide) (by omega) | omega) (by first | assumption | exact TKc_fr h_p0 hF (by decide) (by decide) (by decide) (by omega) | omega)) ?_
  rintro _ _ ⟨rfl, h1⟩
  refine ⟨rfl, ?_⟩
  rcases h1 with ⟨v_h1, rfl, h1r, h1⟩ | ⟨rfl, h1⟩
  · skip
    obtain ⟨h1_0, h1_1⟩ := h1
    refine go_ifq PM34 (k := 3) (p1 := 14) (p2 := 10) (L' := [some (.inr (.inr (some 35))), some (.inl v_h1)]) (st' := []) (w' := (SH, dt)) rfl (c_eq (a := v_h1) (b := (-1)) (by first | exact bnd h1r (by decide) (by decide) | exact ⟨by omega, by omega⟩) ⟨by decide, by decide⟩) (fun c3 => ?_) (fun c3 => ?_)
    · exfalso; omega
    · skip
      refine go_ifq PM34 (k := 1) (p1 := 29) (p2 := 14) (L' := [some (.inr (.inr (some 35))), some (.inl v_h1)]) (st' := []) (w' := (SH, dt)) rfl (z_ne (a := v_h1) (by first | exact bnd h1r (by decide) (by decide) | exact ⟨by omega, by omega⟩)) (fun c4 => ?_) (fun c4 => ?_)
      · skip
        refine go_toq PM34 (k := 2) (pc' := 31) (L' := [some (.inr (.inr (some 35))), some (.inl v_h1)]) (st' := [.inl v_h1, .inr (.inr (some 35))]) (w' := (SH, dt)) rfl ?_
        refine go_callq PM34 PM30 (Q' := _) rfl rfl rfl rfl (sp_X1_emit_f L xs sio (d + 0) dt hI  v_h1 (by first | exact bnd h1r (by decide) (by decide) | exact ⟨by omega, by omega⟩) ) ?_
        rintro _ _ ⟨dt6, rfl, hI7, hF8, h5⟩
        refine ⟨rfl, ?_⟩
        have hF9 : Fr [35, 42] dt dt6 := Fr_tr hF hF8 (by decide)
        rcases h5 with ⟨rfl, h5⟩
        obtain ⟨h5_0, h5_1, h5_2, h5_3, h5_4⟩ := h5
        have X10 : PX S t (gD K V) (gD K V) dt dt6 := PX_sm PX_0 (by omega) (by omega) (by omega)
        have ek11 : (dt6 35 8).toNat = (dt 35 8).toNat := by omega
        have kk12 : K (dt6 35 8).toNat = K (dt 35 8).toNat := congrArg K ek11
        have kk13 : V (dt6 35 8).toNat = V (dt 35 8).toNat := congrArg V ek11
        refine go_toq PM34 (k := 2) (pc' := 37) (L' := [some (.inr (.inr (some 35))), some (.inl v_h1)]) (st' := [.inl (-4), .inr (.inr (some 35))]) (w' := (SH, dt6)) rfl ?_
        refine go_callq PM34 PM30 (Q' := _) rfl rfl rfl rfl (sp_X1_emit_f L xs sio (d + 0) dt6 hI7  (-4) ⟨by decide, by decide⟩ ) ?_
        rintro _ _ ⟨dt15, rfl, hI16, hF17, h14⟩
        refine ⟨rfl, ?_⟩
        have hF18 : Fr [35, 42] dt dt15 := Fr_tr hF9 hF17 (by decide)
        rcases h14 with ⟨rfl, h14⟩
        obtain ⟨h14_0, h14_1, h14_2, h14_3, h14_4⟩ := h14
        have X19 : PX S t (gD K V) (gD K V) dt dt15 := PX_sm X10 (by omega) (by omega) (by omega)
        have ek20 : (dt15 35 8).toNat = (dt6 35 8).toNat := by omega
        have kk21 : K (dt15 35 8).toNat = K (dt6 35 8).toNat := congrArg K ek20
        have kk22 : V (dt15 35 8).toNat = V (dt6 35 8).toNat := congrArg V ek20
        refine go_toq PM34 (k := 5) (pc' := 47) (L' := [some (.inr (.inr (some 35))), some (.inl v_h1)]) (st' := [.inl ((dt15 35 8) + 1), .inr (.inr (some 35))]) (w' := (SH, dt15)) rfl ?_
        have hI23 : InvC (u2 dt15 35 8 ((dt15 35 8) + 1)) := InvC_u2 hI16 (lo := -2147483648) (hi := 2147483647) rfl rfl rfl (by omega) (by omega)
        have hF24 : Fr [35, 42] dt (u2 dt15 35 8 ((dt15 35 8) + 1)) := Fr_u2 hF18 (by decide)
        have w25 : (u2 dt15 35 8 ((dt15 35 8) + 1)) 35 1 = dt15 35 1 := rfl
        have w26 : (u2 dt15 35 8 ((dt15 35 8) + 1)) 35 2 = dt15 35 2 := rfl
        have w27 : (u2 dt15 35 8 ((dt15 35 8) + 1)) 35 3 = dt15 35 3 := rfl
        have w28 : (u2 dt15 35 8 ((dt15 35 8) + 1)) 35 7 = dt15 35 7 := rfl
        have w29 : (u2 dt15 35 8 ((dt15 35 8) + 1)) 35 8 = (dt15 35 8) + 1 := rfl
        have lv31 := KLIVE hz (D := dt15) (by omega) (by omega) (by omega)
        have X30 : PX S t (gD K V) gOk dt (u2 dt15 35 8 ((dt15 35 8) + 1)) := PX_st X19 (SPX_inc hz (by omega) (by omega) (by omega) (by omega) (by omega)) (fun hl => by first | (show (gD K V) (dt15 35 8).toNat = gOk ((dt15 35 8).toNat + 1); unfold gD; rw [if_pos (by omega), if_neg (by omega)]; rfl) | (exfalso; omega))
        refine go_smpq PM34 (L' := [some (.inr (.inr (some 35))), some (.inl v_h1)]) (st' := []) (w' := (SH, (u2 dt15 35 8 ((dt15 35 8) + 1)))) rfl rfl (s_pf rfl rfl rfl rfl ⟨by omega, by omega⟩) ?_
        refine go_retq PM34 (k := 0) (r := none) (w1 := (SH, (u2 dt15 35 8 ((dt15 35 8) + 1)))) rfl ?_
        exact ⟨(u2 dt15 35 8 ((dt15 35 8) + 1)), rfl, hI23, hF24, ⟨rfl, ⟨by exact PX_e X30 (by omega), by first | exact True.intro | assumption | rfl | omega | trivial, by first | exact True.intro | assumption | rfl | omega | trivial, by first | exact True.intro | assumption | rfl | omega | trivial, by first | exact True.intro | assumption | rfl | omega | trivial, by first | exact True.intro | assumption | rfl | omega | trivial⟩⟩⟩
      · skip
        refine go_ifq PM34 (k := 3) (p1 := 24) (p2 := 20) (L' := [some (.inr (.inr (some 35))), some (.inl v_h1)]) (st' := [.inr (.inr (some 35))]) (w' := (SH, dt)) rfl (c_ne (a := v_h1) (b := (-1)) (by first | exact bnd h1r (by decide) (by decide) | exact ⟨by omega, by omega⟩) ⟨by decide, by decide⟩) (fun c32 => ?_) (fun c32 => ?_)
        · skip
          refine go_toq PM34 (k := 1) (pc' := 25) (L' := [some (.inr (.inr (some 35))), some (.inl v_h1)]) (st' := [.inl 2, .inr (.inr (some 35))]) (w' := (SH, dt)) rfl ?_
          refine go_callq PM34 PM21 (Q' := _) rfl rfl rfl rfl (sp_X1_fail_f L xs sio (d + 0) dt hI K V S t hz ht 2 ⟨by decide, by decide⟩ (by first | assumption | exact TKc_fr h_p0 hF (by decide) (by decide) (by decide) (by omega) | omega) (by first | assumption | exact TKc_fr h_p0 hF (by decide) (by decide) (by decide) (by omega) | omega) (by first | assumption | exact TKc_fr h_p0 hF (by decide) (by decide) (by decide) (by omega) | omega)) ?_
          rintro _ _ ⟨dt34, rfl, hI35, hF36, h33⟩
          refine ⟨rfl, ?_⟩
          have hF37 : Fr [35, 42] dt dt34 := Fr_tr hF hF36 (by decide)
          rcases h33 with ⟨rfl, h33⟩
          obtain ⟨h33_0, h33_1, h33_2, h33_3, h33_4⟩ := h33
          have X38 : PX S t (gD K V) gOk dt dt34 := PX_st PX_0 h33_0 (fun hl => by first | exact (by unfold gD; rw [if_pos (by omega), if_pos (by omega)] : _ = ((2 : Int), (dt 35 8).toNat)).trans (gB_no (by show ¬ ((2 : Int) = 0); omega)).symm | (exfalso; omega))
          refine go_retq PM34 (k := 0) (r := none) (w1 := (SH, dt34)) rfl ?_
          exact ⟨dt34, rfl, hI35, hF37, ⟨rfl, ⟨by exact PX_e X38 (by omega), by first | exact True.intro | assumption | rfl | omega | trivial, by first | exact True.intro | assumption | rfl | omega | trivial, by first | exact True.intro | assumption | rfl | omega | trivial, by first | exact True.intro | assumption | rfl | omega | trivial, by first | exact True.intro | assumption | rfl | omega | trivial⟩⟩⟩
        · exfalso; omega
  · skip
    refine go_toq PM34 (k := 10) (pc' := 25) (L' := [some (.inr (.inr (some 35))), some (.inl (-1))]) (st' := [.inl 1, .inr (.inr (some 35))]) (w' := (SH, dt)) rfl ?_
    refine go_callq PM34 PM21 (Q' := _) rfl rfl rfl rfl (sp_X1_fail_f L xs sio (d + 0) dt hI K V S t hz ht 1 ⟨by decide, by decide⟩ (by first | assumption | exact TKc_fr h_p0 hF (by decide) (by decide) (by decide) (by omega) | omega) (by first | assumption | exact TKc_fr h_p0 hF (by decide) (by decide) (by decide) (by omega) | omega) (by first | assumption | exact TKc_fr h_p0 hF (by decide) (by decide) (by decide) (by omega) | omega)) ?_
    rintro _ _ ⟨dt41, rfl, hI42, hF43, h40⟩
    refine ⟨rfl, ?_⟩
    have hF44 : Fr [35, 42] dt dt41 := Fr_tr hF hF43 (by decide)
    rcases h40 with ⟨rfl, h40⟩
    obtain ⟨h40_0, h40_1, h40_2, h40_3, h40_4⟩ := h40
    have X45 : PX S t (gD K V) gOk dt dt41 := PX_st PX_0 h40_0 (fun hl => by first | exact (by unfold gD; rw [if_neg (by omega)] : _ = ((1 : Int), (dt 35 8).toNat)).trans (gB_no (by show ¬ ((1 : Int) = 0); omega)).symm | (exfalso; omega))
    refine go_retq PM34 (k := 0) (r := none) (w1 := (SH, dt41)) rfl ?_
    exact ⟨dt41, rfl, hI42, hF44, ⟨rfl, ⟨by exact PX_e X45 (by omega), by first | exact True.intro | assumption | rfl | omega | trivial, by first | exact True.intro | assumption | rfl | omega | trivial, by first | exact True.intro | assumption | rfl | omega | trivial, by first | exact True.intro | assumption | rfl | omega | trivial, by first | exact True.intro | assumption | rfl | omega | trivial⟩⟩⟩
theorem sp_X1_sum_f (L : Nat) (xs : Nat → Int32) (sio : Option Nat) (d : Nat) (dt : Nat → Nat → Int) (hI : InvC dt) (K V S : Nat → Int) (t : Nat) (hz : KZ K t) (ht : t ≤ 500)  (h_p0 : TKc K V S t dt) (h_p1 : 0 ≤ dt 35 8 ∧ dt 35 8 ≤ (t : Int)) (h_p2 : ¬ dt 35 2 = 0 → dt 35 8 = (t : Int)) : GO (am_XX L xs sio) (d + 2) 33 0 [some (.inr (.inr (some 35))), none, none, none] [] (SH, dt) (fun r w2 => ∃ dt2 : Nat → Nat → Int, w2 = (SH, dt2) ∧ InvC dt2 ∧ Fr [35, 42] dt dt2 ∧ ((r = none ∧ (SPX S t dt dt2 (gE K V)) ∧ (0 ≤ dt2 35 8 ∧ dt2 35 8 ≤ (t : Int)) ∧ (¬ dt2 35 2 = 0 → dt2 35 8 = (t : Int)) ∧ (dt 35 8 ≤ dt2 35 8) ∧ (dt2 35 1 = dt 35 1) ∧ (dt2 35 7 = dt 35 7)))) := by
  have hF : Fr [35, 42] dt dt := Fr_refl
  have h7 : dt 35 7 = (t : Int) + 1 := h_p0.1
  have hk0 := TKc_k h_p0 h_p1
  have hv0 := TKc_v h_p0 h_p1
  have hs0 := TKc_s h_p0 h_p1
  refine go_toq PM33 (k := 3) (pc' := 3) (L' := [some (.inr (.inr (some 35))), some (.inl 0), none, none]) (st' := [.inr (.inr (some 35))]) (w' := (SH, dt)) rfl ?_
  refine go_callq PM33 PM35 (Q' := _) rfl rfl rfl rfl (sp_X1_unit_f L xs sio (d + 0) dt hI K V S t hz ht  (by first | assumption | exact TKc_fr h_p0 hF (by decide) (by decide) (by decide) (by omega) | omega) (by first | assumption | exact TKc_fr h_p0 hF (by decide) (by decide) (by decide) (by omega) | omega) (by first | assumption | exact TKc_fr h_p0 hF (by decide) (by decide) (by decide) (by omega) | omega)) ?_
  rintro _ _ ⟨dt2, rfl, hI3, hF4, h1⟩
  refine ⟨rfl, ?_⟩
  have hF5 : Fr [35, 42] dt dt2 := Fr_tr hF hF4 (by decide)
  rcases h1 with ⟨rfl, h1⟩
  obtain ⟨h1_0, h1_1, h1_2, h1_3, h1_4, h1_5⟩ := h1
  have X6 : PX S t (gE K V) (gS K V 600) dt dt2 := PX_st PX_0 h1_0 (fun hl => by first | exact rfl | (exfalso; omega))
  refine go_toq PM33 (k := 2) (pc' := 8) (L' := [some (.inr (.inr (some 35))), some (.inl 0), some (.inl 0), none]) (st' := []) (w' := (SH, dt2)) rfl ?_
  have loop343 : ∀ (k_ : Nat) (l8_1 : Int) (l8_2 : Int) (dt329 : Nat → Nat → Int) (hI330 : InvC dt329) (hF331 : Fr [35, 42] dt dt329) (i332 : (-2) ≤ l8_1 ∧ l8_1 ≤ 0) (i333 : 0 ≤ l8_2 ∧ l8_2 ≤ 501) (i334 : PX S t (gE K V) (gS K V 600) dt dt329) (i335 : l8_2 ≤ dt329 35 8) (i336 : 0 ≤ dt329 35 8 ∧ dt329 35 8 ≤ (t : Int)) (i337 : ¬ dt329 35 2 = 0 → dt329 35 8 = (t : Int)) (i338 : dt329 35 7 = dt 35 7) (i339 : dt329 35 1 = dt 35 1) (i340 : dt 35 8 ≤ dt329 35 8) (i341 : dt329 35 1 = dt 35 1) (i342 : dt329 35 7 = dt 35 7), (502 - l8_2).toNat < k_ → GO (am_XX L xs sio) (d + 2) 33 8 [some (.inr (.inr (some 35))), some (.inl l8_1), some (.inl l8_2), none] [] (SH, dt329) (fun r w2 => ∃ dt2 : Nat → Nat → Int, w2 = (SH, dt2) ∧ InvC dt2 ∧ Fr [35, 42] dt dt2 ∧ ((r = none ∧ (SPX S t dt dt2 (gE K V)) ∧ (0 ≤ dt2 35 8 ∧ dt2 35 8 ≤ (t : Int)) ∧ (¬ dt2 35 2 = 0 → dt2 35 8 = (t : Int)) ∧ (dt 35 8 ≤ dt2 35 8) ∧ (dt2 35 1 = dt 35 1) ∧ (dt2 35 7 = dt 35 7)))) := by
    intro k_
    induction k_ with
    | zero => intro l8_1 l8_2 dt329 hI330 hF331 i332 i333 i334 i335 i336 i337 i338 i339 i340 i341 i342 hm; exact absurd hm (Nat.not_lt_zero _)
    | succ k_ ih_loop343 =>
      intro l8_1 l8_2 dt329 hI330 hF331 i332 i333 i334 i335 i336 i337 i338 i339 i340 i341 i342 hm
      have qX := i334
      refine go_ifq PM33 (k := 2) (p1 := 126) (p2 := 15) (L' := [some (.inr (.inr (some 35))), some (.inl l8_1), some (.inl l8_2), none]) (st' := []) (w' := (SH, dt329)) rfl (c_gt (a := l8_2) (b := 500) (by first | exact bnd i333 (by decide) (by decide) | exact ⟨by omega, by omega⟩) ⟨by decide, by decide⟩) (fun c344 => ?_) (fun c344 => ?_)
      · skip
        refine go_ifq PM33 (k := 1) (p1 := 135) (p2 := 130) (L' := [some (.inr (.inr (some 35))), some (.inl l8_1), some (.inl l8_2), none]) (st' := []) (w' := (SH, dt329)) rfl (z_eq (a := l8_1) (by first | exact bnd i332 (by decide) (by decide) | exact ⟨by omega, by omega⟩)) (fun c345 => ?_) (fun c345 => ?_)
        · skip
          refine go_retq PM33 (k := 0) (r := none) (w1 := (SH, dt329)) rfl ?_
          exact ⟨dt329, rfl, hI330, hF331, ⟨rfl, ⟨by exact PX_e (PX_g qX (fun _ => by rw [gS_u hz (by omega) (by omega), if_neg (by omega), if_neg (by omega)]; rfl)) (by omega), by first | exact True.intro | assumption | rfl | omega | trivial, by first | exact True.intro | assumption | rfl | omega | trivial, by first | exact True.intro | assumption | rfl | omega | trivial, by first | exact True.intro | assumption | rfl | omega | trivial, by first | exact True.intro | assumption | rfl | omega | trivial⟩⟩⟩
        · skip
          refine go_toq PM33 (k := 2) (pc' := 132) (L' := [some (.inr (.inr (some 35))), some (.inl l8_1), some (.inl l8_2), none]) (st' := [.inl l8_1, .inr (.inr (some 35))]) (w' := (SH, dt329)) rfl ?_
          refine go_callq PM33 PM30 (Q' := _) rfl rfl rfl rfl (sp_X1_emit_f L xs sio (d + 1) dt329 hI330  l8_1 (by first | exact bnd i332 (by decide) (by decide) | exact ⟨by omega, by omega⟩) ) ?_
          rintro _ _ ⟨dt347, rfl, hI348, hF349, h346⟩
          refine ⟨rfl, ?_⟩
          have hF350 : Fr [35, 42] dt dt347 := Fr_tr hF331 hF349 (by decide)
          rcases h346 with ⟨rfl, h346⟩
          obtain ⟨h346_0, h346_1, h346_2, h346_3, h346_4⟩ := h346
          have X351 : PX S t (gE K V) (gS K V 600) dt dt347 := PX_sm qX (by omega) (by omega) (by omega)
          have ek352 : (dt347 35 8).toNat = (dt329 35 8).toNat := by omega
          have kk353 : K (dt347 35 8).toNat = K (dt329 35 8).toNat := congrArg K ek352
          have kk354 : V (dt347 35 8).toNat = V (dt329 35 8).toNat := congrArg V ek352
          refine go_retq PM33 (k := 0) (r := none) (w1 := (SH, dt347)) rfl ?_
          exact ⟨dt347, rfl, hI348, hF350, ⟨rfl, ⟨by exact PX_e (PX_g X351 (fun _ => by rw [gS_u hz (by omega) (by omega), if_neg (by omega), if_neg (by omega)]; rfl)) (by omega), by first | exact True.intro | assumption | rfl | omega | trivial, by first | exact True.intro | assumption | rfl | omega | trivial, by first | exact True.intro | assumption | rfl | omega | trivial, by first | exact True.intro | assumption | rfl | omega | trivial, by first | exact True.intro | assumption | rfl | omega | trivial⟩⟩⟩
      · skip
        refine go_toq PM33 (k := 1) (pc' := 16) (L' := [some (.inr (.inr (some 35))), some (.inl l8_1), some (.inl l8_2), none]) (st' := [.inr (.inr (some 35))]) (w' := (SH, dt329)) rfl ?_
        refine go_callq PM33 PM20 (Q' := _) rfl rfl rfl rfl (sp_X1_token_f L xs sio (d + 1) dt329 hI330 K V S t hz ht  (by first | assumption | exact TKc_fr h_p0 hF331 (by decide) (by decide) (by decide) (by omega) | omega) (by first | assumption | exact TKc_fr h_p0 hF331 (by decide) (by decide) (by decide) (by omega) | omega) (by first | assumption | exact TKc_fr h_p0 hF331 (by decide) (by decide) (by decide) (by omega) | omega)) ?_
        rintro _ _ ⟨rfl, h355⟩
        refine ⟨rfl, ?_⟩
        rcases h355 with ⟨v_h355, rfl, h355r, h355⟩
        refine go_ifq PM33 (k := 3) (p1 := 49) (p2 := 26) (L' := [some (.inr (.inr (some 35))), some (.inl l8_1), some (.inl l8_2), some (.inl v_h355)]) (st' := []) (w' := (SH, dt329)) rfl (c_ne (a := v_h355) (b := 42) (by first | exact bnd h355r (by decide) (by decide) | exact ⟨by omega, by omega⟩) ⟨by decide, by decide⟩) (fun c357 => ?_) (fun c357 => ?_)
        · skip
          refine go_ifq PM33 (k := 2) (p1 := 72) (p2 := 55) (L' := [some (.inr (.inr (some 35))), some (.inl l8_1), some (.inl l8_2), some (.inl v_h355)]) (st' := []) (w' := (SH, dt329)) rfl (c_ne (a := v_h355) (b := 47) (by first | exact bnd h355r (by decide) (by decide) | exact ⟨by omega, by omega⟩) ⟨by decide, by decide⟩) (fun c358 => ?_) (fun c358 => ?_)
          · skip
            refine go_ifq PM33 (k := 2) (p1 := 84) (p2 := 78) (L' := [some (.inr (.inr (some 35))), some (.inl l8_1), some (.inl l8_2), some (.inl v_h355)]) (st' := []) (w' := (SH, dt329)) rfl (c_eq (a := v_h355) (b := 43) (by first | exact bnd h355r (by decide) (by decide) | exact ⟨by omega, by omega⟩) ⟨by decide, by decide⟩) (fun c359 => ?_) (fun c359 => ?_)
            · skip
              refine go_ifq PM33 (k := 1) (p1 := 93) (p2 := 88) (L' := [some (.inr (.inr (some 35))), some (.inl l8_1), some (.inl l8_2), some (.inl v_h355)]) (st' := []) (w' := (SH, dt329)) rfl (z_eq (a := l8_1) (by first | exact bnd i332 (by decide) (by decide) | exact ⟨by omega, by omega⟩)) (fun c360 => ?_) (fun c360 => ?_)
              · skip
                refine go_ifq PM33 (k := 2) (p1 := 103) (p2 := 99) (L' := [some (.inr (.inr (some 35))), some (.inl l8_1), some (.inl l8_2), some (.inl v_h355)]) (st' := []) (w' := (SH, dt329)) rfl (c_ne (a := v_h355) (b := 43) (by first | exact bnd h355r (by decide) (by decide) | exact ⟨by omega, by omega⟩) ⟨by decide, by decide⟩) (fun c361 => ?_) (fun c361 => ?_)
                · skip
                  refine go_toq PM33 (k := 7) (pc' := 113) (L' := [some (.inr (.inr (some 35))), some (.inl (-2)), some (.inl l8_2), some (.inl v_h355)]) (st' := [.inl ((dt329 35 8) + 1), .inr (.inr (some 35))]) (w' := (SH, dt329)) rfl ?_
                  have hI362 : InvC (u2 dt329 35 8 ((dt329 35 8) + 1)) := InvC_u2 hI330 (lo := -2147483648) (hi := 2147483647) rfl rfl rfl (by omega) (by omega)
                  have hF363 : Fr [35, 42] dt (u2 dt329 35 8 ((dt329 35 8) + 1)) := Fr_u2 hF331 (by decide)
                  have w364 : (u2 dt329 35 8 ((dt329 35 8) + 1)) 35 1 = dt329 35 1 := rfl
                  have w365 : (u2 dt329 35 8 ((dt329 35 8) + 1)) 35 2 = dt329 35 2 := rfl
                  have w366 : (u2 dt329 35 8 ((dt329 35 8) + 1)) 35 3 = dt329 35 3 := rfl
                  have w367 : (u2 dt329 35 8 ((dt329 35 8) + 1)) 35 7 = dt329 35 7 := rfl
                  have w368 : (u2 dt329 35 8 ((dt329 35 8) + 1)) 35 8 = (dt329 35 8) + 1 := rfl
                  have lv370 := KLIVE hz (D := dt329) (by omega) (by omega) (by omega)
                  have X369 : PX S t (gE K V) (fun i => gB (gU K i) (gS K V 600)) dt (u2 dt329 35 8 ((dt329 35 8) + 1)) := PX_st qX (SPX_inc hz (by omega) (by omega) (by omega) (by omega) (by omega)) (fun hl => by first | (show (gS K V 600) (dt329 35 8).toNat = (fun i => gB (gU K i) (gS K V 600)) ((dt329 35 8).toNat + 1); rw [gS_u hz (by omega) (by omega)]; rw [if_pos (by omega)]) | (exfalso; omega))
                  refine go_smpq PM33 (L' := [some (.inr (.inr (some 35))), some (.inl (-2)), some (.inl l8_2), some (.inl v_h355)]) (st' := []) (w' := (SH, (u2 dt329 35 8 ((dt329 35 8) + 1)))) rfl rfl (s_pf rfl rfl rfl rfl ⟨by omega, by omega⟩) ?_
                  refine go_toq PM33 (k := 1) (pc' := 117) (L' := [some (.inr (.inr (some 35))), some (.inl (-2)), some (.inl l8_2), some (.inl v_h355)]) (st' := [.inr (.inr (some 35))]) (w' := (SH, (u2 dt329 35 8 ((dt329 35 8) + 1)))) rfl ?_
                  refine go_callq PM33 PM35 (Q' := _) rfl rfl rfl rfl (sp_X1_unit_f L xs sio (d + 0) (u2 dt329 35 8 ((dt329 35 8) + 1)) hI362 K V S t hz ht  (by first | assumption | exact TKc_fr h_p0 hF363 (by decide) (by decide) (by decide) (by omega) | omega) (by first | assumption | exact TKc_fr h_p0 hF363 (by decide) (by decide) (by decide) (by omega) | omega) (by first | assumption | exact TKc_fr h_p0 hF363 (by decide) (by decide) (by decide) (by omega) | omega)) ?_
                  rintro _ _ ⟨dt372, rfl, hI373, hF374, h371⟩
                  refine ⟨rfl, ?_⟩
                  have hF375 : Fr [35, 42] dt dt372 := Fr_tr hF363 hF374 (by decide)
                  rcases h371 with ⟨rfl, h371⟩
                  obtain ⟨h371_0, h371_1, h371_2, h371_3, h371_4, h371_5⟩ := h371
                  have X376 : PX S t (gE K V) (gS K V 600) dt dt372 := PX_st X369 h371_0 (fun hl => by first | exact rfl | (exfalso; omega))
                  refine go_toq PM33 (k := 2) (pc' := 8) (L' := [some (.inr (.inr (some 35))), some (.inl (-2)), some (.inl (l8_2 + 1)), some (.inl v_h355)]) (st' := []) (w' := (SH, dt372)) rfl ?_
                  exact GO.le (ih_loop343 (-2) (l8_2 + 1) dt372 hI373 hF375 (by first | omega | exact X376) (by first | omega | exact X376) (by exact X376) (by first | omega | exact X376) (by first | omega | exact X376) (by first | omega | exact X376) (by first | omega | exact X376) (by first | omega | exact X376) (by first | omega | exact X376) (by first | omega | exact X376) (by first | omega | exact X376) (by omega)) ⟨.inl rfl, .inl rfl, .inl rfl, .inr ⟨rfl, trivial⟩, trivial⟩
                · skip
                  refine go_toq PM33 (k := 8) (pc' := 113) (L' := [some (.inr (.inr (some 35))), some (.inl (-1)), some (.inl l8_2), some (.inl v_h355)]) (st' := [.inl ((dt329 35 8) + 1), .inr (.inr (some 35))]) (w' := (SH, dt329)) rfl ?_
                  have hI377 : InvC (u2 dt329 35 8 ((dt329 35 8) + 1)) := InvC_u2 hI330 (lo := -2147483648) (hi := 2147483647) rfl rfl rfl (by omega) (by omega)
                  have hF378 : Fr [35, 42] dt (u2 dt329 35 8 ((dt329 35 8) + 1)) := Fr_u2 hF331 (by decide)
                  have w379 : (u2 dt329 35 8 ((dt329 35 8) + 1)) 35 1 = dt329 35 1 := rfl
                  have w380 : (u2 dt329 35 8 ((dt329 35 8) + 1)) 35 2 = dt329 35 2 := rfl
                  have w381 : (u2 dt329 35 8 ((dt329 35 8) + 1)) 35 3 = dt329 35 3 := rfl
                  have w382 : (u2 dt329 35 8 ((dt329 35 8) + 1)) 35 7 = dt329 35 7 := rfl
                  have w383 : (u2 dt329 35 8 ((dt329 35 8) + 1)) 35 8 = (dt329 35 8) + 1 := rfl
                  have lv385 := KLIVE hz (D := dt329) (by omega) (by omega) (by omega)
                  have X384 : PX S t (gE K V) (fun i => gB (gU K i) (gS K V 600)) dt (u2 dt329 35 8 ((dt329 35 8) + 1)) := PX_st qX (SPX_inc hz (by omega) (by omega) (by omega) (by omega) (by omega)) (fun hl => by first | (show (gS K V 600) (dt329 35 8).toNat = (fun i => gB (gU K i) (gS K V 600)) ((dt329 35 8).toNat + 1); rw [gS_u hz (by omega) (by omega)]; rw [if_pos (by omega)]) | (exfalso; omega))
                  refine go_smpq PM33 (L' := [some (.inr (.inr (some 35))), some (.inl (-1)), some (.inl l8_2), some (.inl v_h355)]) (st' := []) (w' := (SH, (u2 dt329 35 8 ((dt329 35 8) + 1)))) rfl rfl (s_pf rfl rfl rfl rfl ⟨by omega, by omega⟩) ?_
                  refine go_toq PM33 (k := 1) (pc' := 117) (L' := [some (.inr (.inr (some 35))), some (.inl (-1)), some (.inl l8_2), some (.inl v_h355)]) (st' := [.inr (.inr (some 35))]) (w' := (SH, (u2 dt329 35 8 ((dt329 35 8) + 1)))) rfl ?_
                  refine go_callq PM33 PM35 (Q' := _) rfl rfl rfl rfl (sp_X1_unit_f L xs sio (d + 0) (u2 dt329 35 8 ((dt329 35 8) + 1)) hI377 K V S t hz ht  (by first | assumption | exact TKc_fr h_p0 hF378 (by decide) (by decide) (by decide) (by omega) | omega) (by first | assumption | exact TKc_fr h_p0 hF378 (by decide) (by decide) (by decide) (by omega) | omega) (by first | assumption | exact TKc_fr h_p0 hF378 (by decide) (by decide) (by decide) (by omega) | omega)) ?_
                  rintro _ _ ⟨dt387, rfl, hI388, hF389, h386⟩
                  refine ⟨rfl, ?_⟩
                  have hF390 : Fr [35, 42] dt dt387 := Fr_tr hF378 hF389 (by decide)
                  rcases h386 with ⟨rfl, h386⟩
                  obtain ⟨h386_0, h386_1, h386_2, h386_3, h386_4, h386_5⟩ := h386
                  have X391 : PX S t (gE K V) (gS K V 600) dt dt387 := PX_st X384 h386_0 (fun hl => by first | exact rfl | (exfalso; omega))
                  refine go_toq PM33 (k := 2) (pc' := 8) (L' := [some (.inr (.inr (some 35))), some (.inl (-1)), some (.inl (l8_2 + 1)), some (.inl v_h355)]) (st' := []) (w' := (SH, dt387)) rfl ?_
                  exact GO.le (ih_loop343 (-1) (l8_2 + 1) dt387 hI388 hF390 (by first | omega | exact X391) (by first | omega | exact X391) (by exact X391) (by first | omega | exact X391) (by first | omega | exact X391) (by first | omega | exact X391) (by first | omega | exact X391) (by first | omega | exact X391) (by first | omega | exact X391) (by first | omega | exact X391) (by first | omega | exact X391) (by omega)) ⟨.inl rfl, .inl rfl, .inl rfl, .inr ⟨rfl, trivial⟩, trivial⟩
              · skip
                refine go_toq PM33 (k := 2) (pc' := 90) (L' := [some (.inr (.inr (some 35))), some (.inl l8_1), some (.inl l8_2), some (.inl v_h355)]) (st' := [.inl l8_1, .inr (.inr (some 35))]) (w' := (SH, dt329)) rfl ?_
                refine go_callq PM33 PM30 (Q' := _) rfl rfl rfl rfl (sp_X1_emit_f L xs sio (d + 1) dt329 hI330  l8_1 (by first | exact bnd i332 (by decide) (by decide) | exact ⟨by omega, by omega⟩) ) ?_
                rintro _ _ ⟨dt393, rfl, hI394, hF395, h392⟩
                refine ⟨rfl, ?_⟩
                have hF396 : Fr [35, 42] dt dt393 := Fr_tr hF331 hF395 (by decide)
                rcases h392 with ⟨rfl, h392⟩
                obtain ⟨h392_0, h392_1, h392_2, h392_3, h392_4⟩ := h392
                have X397 : PX S t (gE K V) (gS K V 600) dt dt393 := PX_sm qX (by omega) (by omega) (by omega)
                have ek398 : (dt393 35 8).toNat = (dt329 35 8).toNat := by omega
                have kk399 : K (dt393 35 8).toNat = K (dt329 35 8).toNat := congrArg K ek398
                have kk400 : V (dt393 35 8).toNat = V (dt329 35 8).toNat := congrArg V ek398
                refine go_ifq PM33 (k := 2) (p1 := 103) (p2 := 99) (L' := [some (.inr (.inr (some 35))), some (.inl l8_1), some (.inl l8_2), some (.inl v_h355)]) (st' := []) (w' := (SH, dt393)) rfl (c_ne (a := v_h355) (b := 43) (by first | exact bnd h355r (by decide) (by decide) | exact ⟨by omega, by omega⟩) ⟨by decide, by decide⟩) (fun c401 => ?_) (fun c401 => ?_)
                · skip
                  refine go_toq PM33 (k := 7) (pc' := 113) (L' := [some (.inr (.inr (some 35))), some (.inl (-2)), some (.inl l8_2), some (.inl v_h355)]) (st' := [.inl ((dt393 35 8) + 1), .inr (.inr (some 35))]) (w' := (SH, dt393)) rfl ?_
                  have hI402 : InvC (u2 dt393 35 8 ((dt393 35 8) + 1)) := InvC_u2 hI394 (lo := -2147483648) (hi := 2147483647) rfl rfl rfl (by omega) (by omega)
                  have hF403 : Fr [35, 42] dt (u2 dt393 35 8 ((dt393 35 8) + 1)) := Fr_u2 hF396 (by decide)
                  have w404 : (u2 dt393 35 8 ((dt393 35 8) + 1)) 35 1 = dt393 35 1 := rfl
                  have w405 : (u2 dt393 35 8 ((dt393 35 8) + 1)) 35 2 = dt393 35 2 := rfl
                  have w406 : (u2 dt393 35 8 ((dt393 35 8) + 1)) 35 3 = dt393 35 3 := rfl
                  have w407 : (u2 dt393 35 8 ((dt393 35 8) + 1)) 35 7 = dt393 35 7 := rfl
                  have w408 : (u2 dt393 35 8 ((dt393 35 8) + 1)) 35 8 = (dt393 35 8) + 1 := rfl
                  have lv410 := KLIVE hz (D := dt393) (by omega) (by omega) (by omega)
                  have X409 : PX S t (gE K V) (fun i => gB (gU K i) (gS K V 600)) dt (u2 dt393 35 8 ((dt393 35 8) + 1)) := PX_st X397 (SPX_inc hz (by omega) (by omega) (by omega) (by omega) (by omega)) (fun hl => by first | (show (gS K V 600) (dt393 35 8).toNat = (fun i => gB (gU K i) (gS K V 600)) ((dt393 35 8).toNat + 1); rw [gS_u hz (by omega) (by omega)]; rw [if_pos (by omega)]) | (exfalso; omega))
                  refine go_smpq PM33 (L' := [some (.inr (.inr (some 35))), some (.inl (-2)), some (.inl l8_2), some (.inl v_h355)]) (st' := []) (w' := (SH, (u2 dt393 35 8 ((dt393 35 8) + 1)))) rfl rfl (s_pf rfl rfl rfl rfl ⟨by omega, by omega⟩) ?_
                  refine go_toq PM33 (k := 1) (pc' := 117) (L' := [some (.inr (.inr (some 35))), some (.inl (-2)), some (.inl l8_2), some (.inl v_h355)]) (st' := [.inr (.inr (some 35))]) (w' := (SH, (u2 dt393 35 8 ((dt393 35 8) + 1)))) rfl ?_
                  refine go_callq PM33 PM35 (Q' := _) rfl rfl rfl rfl (sp_X1_unit_f L xs sio (d + 0) (u2 dt393 35 8 ((dt393 35 8) + 1)) hI402 K V S t hz ht  (by first | assumption | exact TKc_fr h_p0 hF403 (by decide) (by decide) (by decide) (by omega) | omega) (by first | assumption | exact TKc_fr h_p0 hF403 (by decide) (by decide) (by decide) (by omega) | omega) (by first | assumption | exact TKc_fr h_p0 hF403 (by decide) (by decide) (by decide) (by omega) | omega)) ?_
                  rintro _ _ ⟨dt412, rfl, hI413, hF414, h411⟩
                  refine ⟨rfl, ?_⟩
                  have hF415 : Fr [35, 42] dt dt412 := Fr_tr hF403 hF414 (by decide)
                  rcases h411 with ⟨rfl, h411⟩
                  obtain ⟨h411_0, h411_1, h411_2, h411_3, h411_4, h411_5⟩ := h411
                  have X416 : PX S t (gE K V) (gS K V 600) dt dt412 := PX_st X409 h411_0 (fun hl => by first | exact rfl | (exfalso; omega))
                  refine go_toq PM33 (k := 2) (pc' := 8) (L' := [some (.inr (.inr (some 35))), some (.inl (-2)), some (.inl (l8_2 + 1)), some (.inl v_h355)]) (st' := []) (w' := (SH, dt412)) rfl ?_
                  exact GO.le (ih_loop343 (-2) (l8_2 + 1) dt412 hI413 hF415 (by first | omega | exact X416) (by first | omega | exact X416) (by exact X416) (by first | omega | exact X416) (by first | omega | exact X416) (by first | omega | exact X416) (by first | omega | exact X416) (by first | omega | exact X416) (by first | omega | exact X416) (by first | omega | exact X416) (by first | omega | exact X416) (by omega)) ⟨.inl rfl, .inl rfl, .inl rfl, .inr ⟨rfl, trivial⟩, trivial⟩
                · skip
                  refine go_toq PM33 (k := 8) (pc' := 113) (L' := [some (.inr (.inr (some 35))), some (.inl (-1)), some (.inl l8_2), some (.inl v_h355)]) (st' := [.inl ((dt393 35 8) + 1), .inr (.inr (some 35))]) (w' := (SH, dt393)) rfl ?_
                  have hI417 : InvC (u2 dt393 35 8 ((dt393 35 8) + 1)) := InvC_u2 hI394 (lo := -2147483648) (hi := 2147483647) rfl rfl rfl (by omega) (by omega)
                  have hF418 : Fr [35, 42] dt (u2 dt393 35 8 ((dt393 35 8) + 1)) := Fr_u2 hF396 (by decide)
                  have w419 : (u2 dt393 35 8 ((dt393 35 8) + 1)) 35 1 = dt393 35 1 := rfl
                  have w420 : (u2 dt393 35 8 ((dt393 35 8) + 1)) 35 2 = dt393 35 2 := rfl
                  have w421 : (u2 dt393 35 8 ((dt393 35 8) + 1)) 35 3 = dt393 35 3 := rfl
                  have w422 : (u2 dt393 35 8 ((dt393 35 8) + 1)) 35 7 = dt393 35 7 := rfl
                  have w423 : (u2 dt393 35 8 ((dt393 35 8) + 1)) 35 8 = (dt393 35 8) + 1 := rfl
                  have lv425 := KLIVE hz (D := dt393) (by omega) (by omega) (by omega)
                  have X424 : PX S t (gE K V) (fun i => gB (gU K i) (gS K V 600)) dt (u2 dt393 35 8 ((dt393 35 8) + 1)) := PX_st X397 (SPX_inc hz (by omega) (by omega) (by omega) (by omega) (by omega)) (fun hl => by first | (show (gS K V 600) (dt393 35 8).toNat = (fun i => gB (gU K i) (gS K V 600)) ((dt393 35 8).toNat + 1); rw [gS_u hz (by omega) (by omega)]; rw [if_pos (by omega)]) | (exfalso; omega))
                  refine go_smpq PM33 (L' := [some (.inr (.inr (some 35))), some (.inl (-1)), some (.inl l8_2), some (.inl v_h355)]) (st' := []) (w' := (SH, (u2 dt393 35 8 ((dt393 35 8) + 1)))) rfl rfl (s_pf rfl rfl rfl rfl ⟨by omega, by omega⟩) ?_
                  refine go_toq PM33 (k := 1) (pc' := 117) (L' := [some (.inr (.inr (some 35))), some (.inl (-1)), some (.inl l8_2), some (.inl v_h355)]) (st' := [.inr (.inr (some 35))]) (w' := (SH, (u2 dt393 35 8 ((dt393 35 8) + 1)))) rfl ?_
                  refine go_callq PM33 PM35 (Q' := _) rfl rfl rfl rfl (sp_X1_unit_f L xs sio (d + 0) (u2 dt393 35 8 ((dt393 35 8) + 1)) hI417 K V S t hz ht  (by first | assumption | exact TKc_fr h_p0 hF418 (by decide) (by decide) (by decide) (by omega) | omega) (by first | assumption | exact TKc_fr h_p0 hF418 (by decide) (by decide) (by decide) (by omega) | omega) (by first | assumption | exact TKc_fr h_p0 hF418 (by decide) (by decide) (by decide) (by omega) | omega)) ?_
                  rintro _ _ ⟨dt427, rfl, hI428, hF429, h426⟩
                  refine ⟨rfl, ?_⟩
                  have hF430 : Fr [35, 42] dt dt427 := Fr_tr hF418 hF429 (by decide)
                  rcases h426 with ⟨rfl, h426⟩
                  obtain ⟨h426_0, h426_1, h426_2, h426_3, h426_4, h426_5⟩ := h426
                  have X431 : PX S t (gE K V) (gS K V 600) dt dt427 := PX_st X424 h426_0 (fun hl => by first | exact rfl | (exfalso; omega))
                  refine go_toq PM33 (k := 2) (pc' := 8) (L' := [some (.inr (.inr (some 35))), some (.inl (-1)), some (.inl (l8_2 + 1)), some (.inl v_h355)]) (st' := []) (w' := (SH, dt427)) rfl ?_
                  exact GO.le (ih_loop343 (-1) (l8_2 + 1) dt427 hI428 hF430 (by first | omega | exact X431) (by first | omega | exact X431) (by exact X431) (by first | omega | exact X431) (by first | omega | exact X431) (by first | omega | exact X431) (by first | omega | exact X431) (by first | omega | exact X431) (by first | omega | exact X431) (by first | omega | exact X431) (by first | omega | exact X431) (by omega)) ⟨.inl rfl, .inl rfl, .inl rfl, .inr ⟨rfl, trivial⟩, trivial⟩
            · skip
              refine go_ifq PM33 (k := 2) (p1 := 126) (p2 := 84) (L' := [some (.inr (.inr (some 35))), some (.inl l8_1), some (.inl l8_2), some (.inl v_h355)]) (st' := []) (w' := (SH, dt329)) rfl (c_ne (a := v_h355) (b := 45) (by first | exact bnd h355r (by decide) (by decide) | exact ⟨by omega, by omega⟩) ⟨by decide, by decide⟩) (fun c432 => ?_) (fun c432 => ?_)
              · skip
                refine go_ifq PM33 (k := 1) (p1 := 135) (p2 := 130) (L' := [some (.inr (.inr (some 35))), some (.inl l8_1), some (.inl l8_2), some (.inl v_h355)]) (st' := []) (w' := (SH, dt329)) rfl (z_eq (a := l8_1) (by first | exact bnd i332 (by decide) (by decide) | exact ⟨by omega, by omega⟩)) (fun c433 => ?_) (fun c433 => ?_)
                · skip
                  refine go_retq PM33 (k := 0) (r := none) (w1 := (SH, dt329)) rfl ?_
                  exact ⟨dt329, rfl, hI330, hF331, ⟨rfl, ⟨by exact PX_e (PX_g qX (fun _ => by rw [gS_u hz (by omega) (by omega), if_neg (by omega), if_neg (by omega)]; rfl)) (by omega), by first | exact True.intro | assumption | rfl | omega | trivial, by first | exact True.intro | assumption | rfl | omega | trivial, by first | exact True.intro | assumption | rfl | omega | trivial, by first | exact True.intro | assumption | rfl | omega | trivial, by first | exact True.intro | assumption | rfl | omega | trivial⟩⟩⟩
                · skip
                  refine go_toq PM33 (k := 2) (pc' := 132) (L' := [some (.inr (.inr (some 35))), some (.inl l8_1), some (.inl l8_2), some (.inl v_h355)]) (st' := [.inl l8_1, .inr (.inr (some 35))]) (w' := (SH, dt329)) rfl ?_
                  refine go_callq PM33 PM30 (Q' := _) rfl rfl rfl rfl (sp_X1_emit_f L xs sio (d + 1) dt329 hI330  l8_1 (by first | exact bnd i332 (by decide) (by decide) | exact ⟨by omega, by omega⟩) ) ?_
                  rintro _ _ ⟨dt435, rfl, hI436, hF437, h434⟩
                  refine ⟨rfl, ?_⟩
                  have hF438 : Fr [35, 42] dt dt435 := Fr_tr hF331 hF437 (by decide)
                  rcases h434 with ⟨rfl, h434⟩
                  obtain ⟨h434_0, h434_1, h434_2, h434_3, h434_4⟩ := h434
                  have X439 : PX S t (gE K V) (gS K V 600) dt dt435 := PX_sm qX (by omega) (by omega) (by omega)
                  have ek440 : (dt435 35 8).toNat = (dt329 35 8).toNat := by omega
                  have kk441 : K (dt435 35 8).toNat = K (dt329 35 8).toNat := congrArg K ek440
                  have kk442 : V (dt435 35 8).toNat = V (dt329 35 8).toNat := congrArg V ek440
                  refine go_retq PM33 (k := 0) (r := none) (w1 := (SH, dt435)) rfl ?_
                  exact ⟨dt435, rfl, hI436, hF438, ⟨rfl, ⟨by exact PX_e (PX_g X439 (fun _ => by rw [gS_u hz (by omega) (by omega), if_neg (by omega), if_neg (by omega)]; rfl)) (by omega), by first | exact True.intro | assumption | rfl | omega | trivial, by first | exact True.intro | assumption | rfl | omega | trivial, by first | exact True.intro | assumption | rfl | omega | trivial, by first | exact True.intro | assumption | rfl | omega | trivial, by first | exact True.intro | assumption | rfl | omega | trivial⟩⟩⟩
              · skip
                refine go_ifq PM33 (k := 1) (p1 := 93) (p2 := 88) (L' := [some (.inr (.inr (some 35))), some (.inl l8_1), some (.inl l8_2), some (.inl v_h355)]) (st' := []) (w' := (SH, dt329)) rfl (z_eq (a := l8_1) (by first | exact bnd i332 (by decide) (by decide) | exact ⟨by omega, by omega⟩)) (fun c443 => ?_) (fun c443 => ?_)
                · skip
                  refine go_ifq PM33 (k := 2) (p1 := 103) (p2 := 99) (L' := [some (.inr (.inr (some 35))), some (.inl l8_1), some (.inl l8_2), some (.inl v_h355)]) (st' := []) (w' := (SH, dt329)) rfl (c_ne (a := v_h355) (b := 43) (by first | exact bnd h355r (by decide) (by decide) | exact ⟨by omega, by omega⟩) ⟨by decide, by decide⟩) (fun c444 => ?_) (fun c444 => ?_)
                  · skip
                    refine go_toq PM33 (k := 7) (pc' := 113) (L' := [some (.inr (.inr (some 35))), some (.inl (-2)), some (.inl l8_2), some (.inl v_h355)]) (st' := [.inl ((dt329 35 8) + 1), .inr (.inr (some 35))]) (w' := (SH, dt329)) rfl ?_
                    have hI445 : InvC (u2 dt329 35 8 ((dt329 35 8) + 1)) := InvC_u2 hI330 (lo := -2147483648) (hi := 2147483647) rfl rfl rfl (by omega) (by omega)
                    have hF446 : Fr [35, 42] dt (u2 dt329 35 8 ((dt329 35 8) + 1)) := Fr_u2 hF331 (by decide)
                    have w447 : (u2 dt329 35 8 ((dt329 35 8) + 1)) 35 1 = dt329 35 1 := rfl
                    have w448 : (u2 dt329 35 8 ((dt329 35 8) + 1)) 35 2 = dt329 35 2 := rfl
                    have w449 : (u2 dt329 35 8 ((dt329 35 8) + 1)) 35 3 = dt329 35 3 := rfl
                    have w450 : (u2 dt329 35 8 ((dt329 35 8) + 1)) 35 7 = dt329 35 7 := rfl
                    have w451 : (u2 dt329 35 8 ((dt329 35 8) + 1)) 35 8 = (dt329 35 8) + 1 := rfl
                    have lv453 := KLIVE hz (D := dt329) (by omega) (by omega) (by omega)
                    have X452 : PX S t (gE K V) (fun i => gB (gU K i) (gS K V 600)) dt (u2 dt329 35 8 ((dt329 35 8) + 1)) := PX_st qX (SPX_inc hz (by omega) (by omega) (by omega) (by omega) (by omega)) (fun hl => by first | (show (gS K V 600) (dt329 35 8).toNat = (fun i => gB (gU K i) (gS K V 600)) ((dt329 35 8).toNat + 1); rw [gS_u hz (by omega) (by omega)]; rw [if_pos (by omega)]) | (exfalso; omega))
                    refine go_smpq PM33 (L' := [some (.inr (.inr (some 35))), some (.inl (-2)), some (.inl l8_2), some (.inl v_h355)]) (st' := []) (w' := (SH, (u2 dt329 35 8 ((dt329 35 8) + 1)))) rfl rfl (s_pf rfl rfl rfl rfl ⟨by omega, by omega⟩) ?_
                    refine go_toq PM33 (k := 1) (pc' := 117) (L' := [some (.inr (.inr (some 35))), some (.inl (-2)), some (.inl l8_2), some (.inl v_h355)]) (st' := [.inr (.inr (some 35))]) (w' := (SH, (u2 dt329 35 8 ((dt329 35 8) + 1)))) rfl ?_
                    refine go_callq PM33 PM35 (Q' := _) rfl rfl rfl rfl (sp_X1_unit_f L xs sio (d + 0) (u2 dt329 35 8 ((dt329 35 8) + 1)) hI445 K V S t hz ht  (by first | assumption | exact TKc_fr h_p0 hF446 (by decide) (by decide) (by decide) (by omega) | omega) (by first | assumption | exact TKc_fr h_p0 hF446 (by decide) (by decide) (by decide) (by omega) | omega) (by first | assumption | exact TKc_fr h_p0 hF446 (by decide) (by decide) (by decide) (by omega) | omega)) ?_
                    rintro _ _ ⟨dt455, rfl, hI456, hF457, h454⟩
                    refine ⟨rfl, ?_⟩
                    have hF458 : Fr [35, 42] dt dt455 := Fr_tr hF446 hF457 (by decide)
                    rcases h454 with ⟨rfl, h454⟩
                    obtain ⟨h454_0, h454_1, h454_2, h454_3, h454_4, h454_5⟩ := h454
                    have X459 : PX S t (gE K V) (gS K V 600) dt dt455 := PX_st X452 h454_0 (fun hl => by first | exact rfl | (exfalso; omega))
                    refine go_toq PM33 (k := 2) (pc' := 8) (L' := [some (.inr (.inr (some 35))), some (.inl (-2)), some (.inl (l8_2 + 1)), some (.inl v_h355)]) (st' := []) (w' := (SH, dt455)) rfl ?_
                    exact GO.le (ih_loop343 (-2) (l8_2 + 1) dt455 hI456 hF458 (by first | omega | exact X459) (by first | omega | exact X459) (by exact X459) (by first | omega | exact X459) (by first | omega | exact X459) (by first | omega | exact X459) (by first | omega | exact X459) (by first | omega | exact X459) (by first | omega | exact X459) (by first | omega | exact X459) (by first | omega | exact X459) (by omega)) ⟨.inl rfl, .inl rfl, .inl rfl, .inr ⟨rfl, trivial⟩, trivial⟩
                  · exfalso; omega
                · skip
                  refine go_toq PM33 (k := 2) (pc' := 90) (L' := [some (.inr (.inr (some 35))), some (.inl l8_1), some (.inl l8_2), some (.inl v_h355)]) (st' := [.inl l8_1, .inr (.inr (some 35))]) (w' := (SH, dt329)) rfl ?_
                  refine go_callq PM33 PM30 (Q' := _) rfl rfl rfl rfl (sp_X1_emit_f L xs sio (d + 1) dt329 hI330  l8_1 (by first | exact bnd i332 (by decide) (by decide) | exact ⟨by omega, by omega⟩) ) ?_
                  rintro _ _ ⟨dt461, rfl, hI462, hF463, h460⟩
                  refine ⟨rfl, ?_⟩
                  have hF464 : Fr [35, 42] dt dt461 := Fr_tr hF331 hF463 (by decide)
                  rcases h460 with ⟨rfl, h460⟩
                  obtain ⟨h460_0, h460_1, h460_2, h460_3, h460_4⟩ := h460
                  have X465 : PX S t (gE K V) (gS K V 600) dt dt461 := PX_sm qX (by omega) (by omega) (by omega)
                  have ek466 : (dt461 35 8).toNat = (dt329 35 8).toNat := by omega
                  have kk467 : K (dt461 35 8).toNat = K (dt329 35 8).toNat := congrArg K ek466
                  have kk468 : V (dt461 35 8).toNat = V (dt329 35 8).toNat := congrArg V ek466
                  refine go_ifq PM33 (k := 2) (p1 := 103) (p2 := 99) (L' := [some (.inr (.inr (some 35))), some (.inl l8_1), some (.inl l8_2), some (.inl v_h355)]) (st' := []) (w' := (SH, dt461)) rfl (c_ne (a := v_h355) (b := 43) (by first | exact bnd h355r (by decide) (by decide) | exact ⟨by omega, by omega⟩) ⟨by decide, by decide⟩) (fun c469 => ?_) (fun c469 => ?_)
                  · skip
                    refine go_toq PM33 (k := 7) (pc' := 113) (L' := [some (.inr (.inr (some 35))), some (.inl (-2)), some (.inl l8_2), some (.inl v_h355)]) (st' := [.inl ((dt461 35 8) + 1), .inr (.inr (some 35))]) (w' := (SH, dt461)) rfl ?_
                    have hI470 : InvC (u2 dt461 35 8 ((dt461 35 8) + 1)) := InvC_u2 hI462 (lo := -2147483648) (hi := 2147483647) rfl rfl rfl (by omega) (by omega)
                    have hF471 : Fr [35, 42] dt (u2 dt461 35 8 ((dt461 35 8) + 1)) := Fr_u2 hF464 (by decide)
                    have w472 : (u2 dt461 35 8 ((dt461 35 8) + 1)) 35 1 = dt461 35 1 := rfl
                    have w473 : (u2 dt461 35 8 ((dt461 35 8) + 1)) 35 2 = dt461 35 2 := rfl
                    have w474 : (u2 dt461 35 8 ((dt461 35 8) + 1)) 35 3 = dt461 35 3 := rfl
                    have w475 : (u2 dt461 35 8 ((dt461 35 8) + 1)) 35 7 = dt461 35 7 := rfl
                    have w476 : (u2 dt461 35 8 ((dt461 35 8) + 1)) 35 8 = (dt461 35 8) + 1 := rfl
                    have lv478 := KLIVE hz (D := dt461) (by omega) (by omega) (by omega)
                    have X477 : PX S t (gE K V) (fun i => gB (gU K i) (gS K V 600)) dt (u2 dt461 35 8 ((dt461 35 8) + 1)) := PX_st X465 (SPX_inc hz (by omega) (by omega) (by omega) (by omega) (by omega)) (fun hl => by first | (show (gS K V 600) (dt461 35 8).toNat = (fun i => gB (gU K i) (gS K V 600)) ((dt461 35 8).toNat + 1); rw [gS_u hz (by omega) (by omega)]; rw [if_pos (by omega)]) | (exfalso; omega))
                    refine go_smpq PM33 (L' := [some (.inr (.inr (some 35))), some (.inl (-2)), some (.inl l8_2), some (.inl v_h355)]) (st' := []) (w' := (SH, (u2 dt461 35 8 ((dt461 35 8) + 1)))) rfl rfl (s_pf rfl rfl rfl rfl ⟨by omega, by omega⟩) ?_
                    refine go_toq PM33 (k := 1) (pc' := 117) (L' := [some (.inr (.inr (some 35))), some (.inl (-2)), some (.inl l8_2), some (.inl v_h355)]) (st' := [.inr (.inr (some 35))]) (w' := (SH, (u2 dt461 35 8 ((dt461 35 8) + 1)))) rfl ?_
                    refine go_callq PM33 PM35 (Q' := _) rfl rfl rfl rfl (sp_X1_unit_f L xs sio (d + 0) (u2 dt461 35 8 ((dt461 35 8) + 1)) hI470 K V S t hz ht  (by first | assumption | exact TKc_fr h_p0 hF471 (by decide) (by decide) (by decide) (by omega) | omega) (by first | assumption | exact TKc_fr h_p0 hF471 (by decide) (by decide) (by decide) (by omega) | omega) (by first | assumption | exact TKc_fr h_p0 hF471 (by decide) (by decide) (by decide) (by omega) | omega)) ?_
                    rintro _ _ ⟨dt480, rfl, hI481, hF482, h479⟩
                    refine ⟨rfl, ?_⟩
                    have hF483 : Fr [35, 42] dt dt480 := Fr_tr hF471 hF482 (by decide)
                    rcases h479 with ⟨rfl, h479⟩
                    obtain ⟨h479_0, h479_1, h479_2, h479_3, h479_4, h479_5⟩ := h479
                    have X484 : PX S t (gE K V) (gS K V 600) dt dt480 := PX_st X477 h479_0 (fun hl => by first | exact rfl | (exfalso; omega))
                    refine go_toq PM33 (k := 2) (pc' := 8) (L' := [some (.inr (.inr (some 35))), some (.inl (-2)), some (.inl (l8_2 + 1)), some (.inl v_h355)]) (st' := []) (w' := (SH, dt480)) rfl ?_
                    exact GO.le (ih_loop343 (-2) (l8_2 + 1) dt480 hI481 hF483 (by first | omega | exact X484) (by first | omega | exact X484) (by exact X484) (by first | omega | exact X484) (by first | omega | exact X484) (by first | omega | exact X484) (by first | omega | exact X484) (by first | omega | exact X484) (by first | omega | exact X484) (by first | omega | exact X484) (by first | omega | exact X484) (by omega)) ⟨.inl rfl, .inl rfl, .inl rfl, .inr ⟨rfl, trivial⟩, trivial⟩
                  · exfalso; omega
          · skip
            refine go_toq PM33 (k := 5) (pc' := 62) (L' := [some (.inr (.inr (some 35))), some (.inl l8_1), some (.inl l8_2), some (.inl v_h355)]) (st' := [.inl ((dt329 35 8) + 1), .inr (.inr (some 35))]) (w' := (SH, dt329)) rfl ?_
            have hI485 : InvC (u2 dt329 35 8 ((dt329 35 8) + 1)) := InvC_u2 hI330 (lo := -2147483648) (hi := 2147483647) rfl rfl rfl (by omega) (by omega)
            have hF486 : Fr [35, 42] dt (u2 dt329 35 8 ((dt329 35 8) + 1)) := Fr_u2 hF331 (by decide)
            have w487 : (u2 dt329 35 8 ((dt329 35 8) + 1)) 35 1 = dt329 35 1 := rfl
            have w488 : (u2 dt329 35 8 ((dt329 35 8) + 1)) 35 2 = dt329 35 2 := rfl
            have w489 : (u2 dt329 35 8 ((dt329 35 8) + 1)) 35 3 = dt329 35 3 := rfl
            have w490 : (u2 dt329 35 8 ((dt329 35 8) + 1)) 35 7 = dt329 35 7 := rfl
            have w491 : (u2 dt329 35 8 ((dt329 35 8) + 1)) 35 8 = (dt329 35 8) + 1 := rfl
            have lv493 := KLIVE hz (D := dt329) (by omega) (by omega) (by omega)
            have X492 : PX S t (gE K V) (fun i => gB (gD K V i) (gS K V 600)) dt (u2 dt329 35 8 ((dt329 35 8) + 1)) := PX_st qX (SPX_inc hz (by omega) (by omega) (by omega) (by omega) (by omega)) (fun hl => by first | (show (gS K V 600) (dt329 35 8).toNat = (fun i => gB (gD K V i) (gS K V 600)) ((dt329 35 8).toNat + 1); rw [gS_u hz (by omega) (by omega)]; rw [if_neg (by omega), if_pos (by omega)]) | (exfalso; omega))
            refine go_smpq PM33 (L' := [some (.inr (.inr (some 35))), some (.inl l8_1), some (.inl l8_2), some (.inl v_h355)]) (st' := []) (w' := (SH, (u2 dt329 35 8 ((dt329 35 8) + 1)))) rfl rfl (s_pf rfl rfl rfl rfl ⟨by omega, by omega⟩) ?_
            refine go_toq PM33 (k := 1) (pc' := 66) (L' := [some (.inr (.inr (some 35))), some (.inl l8_1), some (.inl l8_2), some (.inl v_h355)]) (st' := [.inr (.inr (some 35))]) (w' := (SH, (u2 dt329 35 8 ((dt329 35 8) + 1)))) rfl ?_
            refine go_callq PM33 PM34 (Q' := _) rfl rfl rfl rfl (sp_X1_part_f L xs sio (d + 0) (u2 dt329 35 8 ((dt329 35 8) + 1)) hI485 K V S t hz ht  (by first | assumption | exact TKc_fr h_p0 hF486 (by decide) (by decide) (by decide) (by omega) | omega) (by first | assumption | exact TKc_fr h_p0 hF486 (by decide) (by decide) (by decide) (by omega) | omega) (by first | assumption | exact TKc_fr h_p0 hF486 (by decide) (by decide) (by decide) (by omega) | omega)) ?_
            rintro _ _ ⟨dt495, rfl, hI496, hF497, h494⟩
            refine ⟨rfl, ?_⟩
            have hF498 : Fr [35, 42] dt dt495 := Fr_tr hF486 hF497 (by decide)
            rcases h494 with ⟨rfl, h494⟩
            obtain ⟨h494_0, h494_1, h494_2, h494_3, h494_4, h494_5⟩ := h494
            have X499 : PX S t (gE K V) (gS K V 600) dt dt495 := PX_st X492 h494_0 (fun hl => by first | exact rfl | (exfalso; omega))
            refine go_toq PM33 (k := 3) (pc' := 8) (L' := [some (.inr (.inr (some 35))), some (.inl l8_1), some (.inl (l8_2 + 1)), some (.inl v_h355)]) (st' := []) (w' := (SH, dt495)) rfl ?_
            exact GO.le (ih_loop343 l8_1 (l8_2 + 1) dt495 hI496 hF498 (by first | omega | exact X499) (by first | omega | exact X499) (by exact X499) (by first | omega | exact X499) (by first | omega | exact X499) (by first | omega | exact X499) (by first | omega | exact X499) (by first | omega | exact X499) (by first | omega | exact X499) (by first | omega | exact X499) (by first | omega | exact X499) (by omega)) ⟨.inl rfl, .inl rfl, .inl rfl, .inr ⟨rfl, trivial⟩, trivial⟩
        · skip
          refine go_toq PM33 (k := 5) (pc' := 33) (L' := [some (.inr (.inr (some 35))), some (.inl l8_1), some (.inl l8_2), some (.inl v_h355)]) (st' := [.inl ((dt329 35 8) + 1), .inr (.inr (some 35))]) (w' := (SH, dt329)) rfl ?_
          have hI500 : InvC (u2 dt329 35 8 ((dt329 35 8) + 1)) := InvC_u2 hI330 (lo := -2147483648) (hi := 2147483647) rfl rfl rfl (by omega) (by omega)
          have hF501 : Fr [35, 42] dt (u2 dt329 35 8 ((dt329 35 8) + 1)) := Fr_u2 hF331 (by decide)
          have w502 : (u2 dt329 35 8 ((dt329 35 8) + 1)) 35 1 = dt329 35 1 := rfl
          have w503 : (u2 dt329 35 8 ((dt329 35 8) + 1)) 35 2 = dt329 35 2 := rfl
          have w504 : (u2 dt329 35 8 ((dt329 35 8) + 1)) 35 3 = dt329 35 3 := rfl
          have w505 : (u2 dt329 35 8 ((dt329 35 8) + 1)) 35 7 = dt329 35 7 := rfl
          have w506 : (u2 dt329 35 8 ((dt329 35 8) + 1)) 35 8 = (dt329 35 8) + 1 := rfl
          have lv508 := KLIVE hz (D := dt329) (by omega) (by omega) (by omega)
          have X507 : PX S t (gE K V) (fun i => gB (gU K i) (gS K V 600)) dt (u2 dt329 35 8 ((dt329 35 8) + 1)) := PX_st qX (SPX_inc hz (by omega) (by omega) (by omega) (by omega) (by omega)) (fun hl => by first | (show (gS K V 600) (dt329 35 8).toNat = (fun i => gB (gU K i) (gS K V 600)) ((dt329 35 8).toNat + 1); rw [gS_u hz (by omega) (by omega)]; rw [if_pos (by omega)]) | (exfalso; omega))
          refine go_smpq PM33 (L' := [some (.inr (.inr (some 35))), some (.inl l8_1), some (.inl l8_2), some (.inl v_h355)]) (st' := []) (w' := (SH, (u2 dt329 35 8 ((dt329 35 8) + 1)))) rfl rfl (s_pf rfl rfl rfl rfl ⟨by omega, by omega⟩) ?_
          refine go_toq PM33 (k := 1) (pc' := 37) (L' := [some (.inr (.inr (some 35))), some (.inl l8_1), some (.inl l8_2), some (.inl v_h355)]) (st' := [.inr (.inr (some 35))]) (w' := (SH, (u2 dt329 35 8 ((dt329 35 8) + 1)))) rfl ?_
          refine go_callq PM33 PM35 (Q' := _) rfl rfl rfl rfl (sp_X1_unit_f L xs sio (d + 0) (u2 dt329 35 8 ((dt329 35 8) + 1)) hI500 K V S t hz ht  (by first | assumption | exact TKc_fr h_p0 hF501 (by decide) (by decide) (by decide) (by omega) | omega) (by first | assumption | exact TKc_fr h_p0 hF501 (by decide) (by decide) (by decide) (by omega) | omega) (by first | assumption | exact TKc_fr h_p0 hF501 (by decide) (by decide) (by decide) (by omega) | omega)) ?_
          rintro _ _ ⟨dt510, rfl, hI511, hF512, h509⟩
          refine ⟨rfl, ?_⟩
          have hF513 : Fr [35, 42] dt dt510 := Fr_tr hF501 hF512 (by decide)
          rcases h509 with ⟨rfl, h509⟩
          obtain ⟨h509_0, h509_1, h509_2, h509_3, h509_4, h509_5⟩ := h509
          have X514 : PX S t (gE K V) (gS K V 600) dt dt510 := PX_st X507 h509_0 (fun hl => by first | exact rfl | (exfalso; omega))
          refine go_toq PM33 (k := 2) (pc' := 43) (L' := [some (.inr (.inr (some 35))), some (.inl l8_1), some (.inl l8_2), some (.inl v_h355)]) (st' := [.inl (-3), .inr (.inr (some 35))]) (w' := (SH, dt510)) rfl ?_
          refine go_callq PM33 PM30 (Q' := _) rfl rfl rfl rfl (sp_X1_emit_f L xs sio (d + 1) dt510 hI511  (-3) ⟨by decide, by decide⟩ ) ?_
          rintro _ _ ⟨dt516, rfl, hI517, hF518, h515⟩
          refine ⟨rfl, ?_⟩
          have hF519 : Fr [35, 42] dt dt516 := Fr_tr hF513 hF518 (by decide)
          rcases h515 with ⟨rfl, h515⟩
          obtain ⟨h515_0, h515_1, h515_2, h515_3, h515_4⟩ := h515
          have X520 : PX S t (gE K V) (gS K V 600) dt dt516 := PX_sm X514 (by omega) (by omega) (by omega)
          have ek521 : (dt516 35 8).toNat = (dt510 35 8).toNat := by omega
          have kk522 : K (dt516 35 8).toNat = K (dt510 35 8).toNat := congrArg K ek521
          have kk523 : V (dt516 35 8).toNat = V (dt510 35 8).toNat := congrArg V ek521
          refine go_toq PM33 (k := 3) (pc' := 8) (L' := [some (.inr (.inr (some 35))), some (.inl l8_1), some (.inl (l8_2 + 1)), some (.inl v_h355)]) (st' := []) (w' := (SH, dt516)) rfl ?_
          exact GO.le (ih_loop343 l8_1 (l8_2 + 1) dt516 hI517 hF519 (by first | omega | exact X520) (by first | omega | exact X520) (by exact X520) (by first | omega | exact X520) (by first | omega | exact X520) (by first | omega | exact X520) (by first | omega | exact X520) (by first | omega | exact X520) (by first | omega | exact X520) (by first | omega | exact X520) (by first | omega | exact X520) (by omega)) ⟨.inl rfl, .inl rfl, .inl rfl, .inr ⟨rfl, trivial⟩, trivial⟩
  exact GO.le (loop343 _ 0 0 dt2 hI3 hF5 (by first | omega | exact X6) (by first | omega | exact X6) (by exact X6) (by first | omega | exact X6) (by first | omega | exact X6) (by first | omega | exact X6) (by first | omega | exact X6) (by first | omega | exact X6) (by first | omega | exact X6) (by first | omega | exact X6) (by first | omega | exact X6) (Nat.lt_succ_self _)) ⟨.inl rfl, .inl rfl, .inl rfl, .inl rfl, trivial⟩
theorem sp_X1_single_8f (L : Nat) (xs : Nat → Int32) (sio : Option Nat) (d : Nat) (dt : Nat → Nat → Int) (hI : InvC dt) (K V S : Nat → Int) (t : Nat) (hz : KZ K t) (ht : t ≤ 500)  (h_p0 : TKc K V S t dt) (h_p1 : 0 ≤ dt 35 8 ∧ dt 35 8 ≤ (t : Int)) (h_p2 : ¬ dt 35 2 = 0 → dt 35 8 = (t : Int)) : GO (am_XX L xs sio) (d + 3) 32 0 [some (.inr (.inr (some 35))), some (.inl 8), none, none] [] (SH, dt) (fun r w2 => ∃ dt2 : Nat → Nat → Int, w2 = (SH, dt2) ∧ InvC dt2 ∧ Fr [35, 42] dt dt2 ∧ ((r = none ∧ (SPX S t dt dt2 (gC K V 0)) ∧ (0 ≤ dt2 35 8 ∧ dt2 35 8 ≤ (t : Int)) ∧ (¬ dt2 35 2 = 0 → dt2 35 8 = (t : Int)) ∧ (dt 35 8 ≤ dt2 35 8) ∧ (dt2 35 1 = dt 35 1) ∧ (dt2 35 7 = dt 35 7)))) := by
  have hF : Fr [35, 42] dt dt := Fr_refl
  have h7 : dt 35 7 = (t : Int) + 1 := h_p0.1
  have hk0 := TKc_k h_p0 h_p1
  have hv0 := TKc_v h_p0 h_p1
  have hs0 := TKc_s h_p0 h_p1
  refine go_toq PM32 (k := 1) (pc' := 1) (L' := [some (.inr (.inr (some 35))), some (.inl 8), none, none]) (st' := [.inr (.inr (some 35))]) (w' := (SH, dt)) rfl ?_
  refine go_callq PM32 PM20 (Q' := _) rfl rfl rfl rfl (sp_X1_token_f L xs sio (d + 2) dt hI K V S t hz ht  (by first | assumption | exact TKc_fr h_p0 hF (by decide) (by decide) (by decide) (by omega) | omega) (by first | assumption | exact TKc_fr h_p0 hF (by decide) (by decide) (by decide) (by omega) | omega) (by first | assumption | exact TKc_fr h_p0 hF (by decide) (by decide) (by decide) (by omega) | omega)) ?_
  rintro _ _ ⟨rfl, h1⟩
  refine ⟨rfl, ?_⟩
  rcases h1 with ⟨v_h1, rfl, h1r, h1⟩
  refine go_ifq PM32 (k := 1) (p1 := 14) (p2 := 10) (L' := [some (.inr (.inr (some 35))), some (.inl 8), none, none]) (st' := []) (w' := (SH, dt)) rfl (c_ne (a := v_h1) (b := 1005) (by first | exact bnd h1r (by decide) (by decide) | exact ⟨by omega, by omega⟩) ⟨by decide, by decide⟩) (fun c3 => ?_) (fun c3 => ?_)
  · skip
    refine go_toq PM32 (k := 5) (pc' := 21) (L' := [some (.inr (.inr (some 35))), some (.inl 8), some (.inl 0), none]) (st' := [.inr (.inr (some 35))]) (w' := (SH, dt)) rfl ?_
    refine go_callq PM32 PM20 (Q' := _) rfl rfl rfl rfl (sp_X1_token_f L xs sio (d + 2) dt hI K V S t hz ht  (by first | assumption | exact TKc_fr h_p0 hF (by decide) (by decide) (by decide) (by omega) | omega) (by first | assumption | exact TKc_fr h_p0 hF (by decide) (by decide) (by decide) (by omega) | omega) (by first | assumption | exact TKc_fr h_p0 hF (by decide) (by decide) (by decide) (by omega) | omega)) ?_
    rintro _ _ ⟨rfl, h4⟩
    refine ⟨rfl, ?_⟩
    rcases h4 with ⟨v_h4, rfl, h4r, h4⟩
    refine go_ifq PM32 (k := 1) (p1 := 107) (p2 := 29) (L' := [some (.inr (.inr (some 35))), some (.inl 8), some (.inl 0), none]) (st' := []) (w' := (SH, dt)) rfl (c_eq (a := v_h4) (b := 40) (by first | exact bnd h4r (by decide) (by decide) | exact ⟨by omega, by omega⟩) ⟨by decide, by decide⟩) (fun c6 => ?_) (fun c6 => ?_)
    · skip
      refine go_toq PM32 (k := 5) (pc' := 115) (L' := [some (.inr (.inr (some 35))), some (.inl 8), some (.inl 0), none]) (st' := [.inl 3, .inr (.inr (some 35))]) (w' := (SH, dt)) rfl ?_
      refine go_callq PM32 PM21 (Q' := _) rfl rfl rfl rfl (sp_X1_fail_f L xs sio (d + 2) dt hI K V S t hz ht 3 ⟨by decide, by decide⟩ (by first | assumption | exact TKc_fr h_p0 hF (by decide) (by decide) (by decide) (by omega) | omega) (by first | assumption | exact TKc_fr h_p0 hF (by decide) (by decide) (by decide) (by omega) | omega) (by first | assumption | exact TKc_fr h_p0 hF (by decide) (by decide) (by decide) (by omega) | omega)) ?_
      rintro _ _ ⟨dt8, rfl, hI9, hF10, h7⟩
      refine ⟨rfl, ?_⟩
      have hF11 : Fr [35, 42] dt dt8 := Fr_tr hF hF10 (by decide)
      rcases h7 with ⟨rfl, h7⟩
      obtain ⟨h7_0, h7_1, h7_2, h7_3, h7_4⟩ := h7
      have X12 : PX S t (gC K V 0) gOk dt dt8 := PX_st PX_0 h7_0 (fun hl => by first | exact (by exact gC_3 (by omega) : _ = ((3 : Int), (dt 35 8).toNat)).trans (gB_no (by show ¬ ((3 : Int) = 0); omega)).symm | (exfalso; omega))
      refine go_retq PM32 (k := 1) (r := none) (w1 := (SH, dt8)) rfl ?_
      exact ⟨dt8, rfl, hI9, hF11, ⟨rfl, ⟨by exact PX_e X12 (by omega), by first | exact True.intro | assumption | rfl | omega | trivial, by first | exact True.intro | assumption | rfl | omega | trivial, by first | exact True.intro | assumption | rfl | omega | trivial, by first | exact True.intro | assumption | rfl | omega | trivial, by first | exact True.intro | assumption | rfl | omega | trivial⟩⟩⟩
    · skip
      refine go_toq PM32 (k := 1) (pc' := 30) (L' := [some (.inr (.inr (some 35))), some (.inl 8), some (.inl 0), none]) (st' := [.inr (.inr (some 35))]) (w' := (SH, dt)) rfl ?_
      refine go_callq PM32 PM33 (Q' := _) rfl rfl rfl rfl (sp_X1_sum_f L xs sio (d + 0) dt hI K V S t hz ht  (by first | assumption | exact TKc_fr h_p0 hF (by decide) (by decide) (by decide) (by omega) | omega) (by first | assumption | exact TKc_fr h_p0 hF (by decide) (by decide) (by decide) (by omega) | omega) (by first | assumption | exact TKc_fr h_p0 hF (by decide) (by decide) (by decide) (by omega) | omega)) ?_
      rintro _ _ ⟨dt14, rfl, hI15, hF16, h13⟩
      refine ⟨rfl, ?_⟩
      have hF17 : Fr [35, 42] dt dt14 := Fr_tr hF hF16 (by decide)
      rcases h13 with ⟨rfl, h13⟩
      obtain ⟨h13_0, h13_1, h13_2, h13_3, h13_4, h13_5⟩ := h13
      have X18 : PX S t (gC K V 0) (gR1 K V) dt dt14 := PX_st PX_0 h13_0 (fun hl => by first | exact (gC_1 (by omega) (by omega)).trans gC1_R | (exfalso; omega))
      refine go_toq PM32 (k := 1) (pc' := 34) (L' := [some (.inr (.inr (some 35))), some (.inl 8), some (.inl 0), none]) (st' := [.inr (.inr (some 35))]) (w' := (SH, dt14)) rfl ?_
      refine go_callq PM32 PM20 (Q' := _) rfl rfl rfl rfl (sp_X1_token_f L xs sio (d + 2) dt14 hI15 K V S t hz ht  (by first | assumption | exact TKc_fr h_p0 hF17 (by decide) (by decide) (by decide) (by omega) | omega) (by first | assumption | exact TKc_fr h_p0 hF17 (by decide) (by decide) (by decide) (by omega) | omega) (by first | assumption | exact TKc_fr h_p0 hF17 (by decide) (by decide) (by decide) (by omega) | omega)) ?_
      rintro _ _ ⟨rfl, h19⟩
      refine ⟨rfl, ?_⟩
      rcases h19 with ⟨v_h19, rfl, h19r, h19⟩
      refine go_ifq PM32 (k := 3) (p1 := 62) (p2 := 44) (L' := [some (.inr (.inr (some 35))), some (.inl 8), some (.inl 0), some (.inl v_h19)]) (st' := []) (w' := (SH, dt14)) rfl (c_eq (a := v_h19) (b := 60) (by first | exact bnd h19r (by decide) (by decide) | exact ⟨by omega, by omega⟩) ⟨by decide, by decide⟩) (fun c21 => ?_) (fun c21 => ?_)
      · skip
        refine go_toq PM32 (k := 5) (pc' := 69) (L' := [some (.inr (.inr (some 35))), some (.inl 8), some (.inl 0), some (.inl v_h19)]) (st' := [.inl ((dt14 35 8) + 1), .inr (.inr (some 35))]) (w' := (SH, dt14)) rfl ?_
        have hI22 : InvC (u2 dt14 35 8 ((dt14 35 8) + 1)) := InvC_u2 hI15 (lo := -2147483648) (hi := 2147483647) rfl rfl rfl (by omega) (by omega)
        have hF23 : Fr [35, 42] dt (u2 dt14 35 8 ((dt14 35 8) + 1)) := Fr_u2 hF17 (by decide)
        have w24 : (u2 dt14 35 8 ((dt14 35 8) + 1)) 35 1 = dt14 35 1 := rfl
        have w25 : (u2 dt14 35 8 ((dt14 35 8) + 1)) 35 2 = dt14 35 2 := rfl
        have w26 : (u2 dt14 35 8 ((dt14 35 8) + 1)) 35 3 = dt14 35 3 := rfl
        have w27 : (u2 dt14 35 8 ((dt14 35 8) + 1)) 35 7 = dt14 35 7 := rfl
        have w28 : (u2 dt14 35 8 ((dt14 35 8) + 1)) 35 8 = (dt14 35 8) + 1 := rfl
        have lv30 := KLIVE hz (D := dt14) (by omega) (by omega) (by omega)
        have X29 : PX S t (gC K V 0) (gE K V) dt (u2 dt14 35 8 ((dt14 35 8) + 1)) := PX_st X18 (SPX_inc hz (by omega) (by omega) (by omega) (by omega) (by omega)) (fun hl => by first | (show (gR1 K V) (dt14 35 8).toNat = (gE K V) ((dt14 35 8).toNat + 1); unfold gR1; rw [if_pos (by omega)]) | (exfalso; omega))
        refine go_smpq PM32 (L' := [some (.inr (.inr (some 35))), some (.inl 8), some (.inl 0), some (.inl v_h19)]) (st' := []) (w' := (SH, (u2 dt14 35 8 ((dt14 35 8) + 1)))) rfl rfl (s_pf rfl rfl rfl rfl ⟨by omega, by omega⟩) ?_
        refine go_toq PM32 (k := 1) (pc' := 73) (L' := [some (.inr (.inr (some 35))), some (.inl 8), some (.inl 0), some (.inl v_h19)]) (st' := [.inr (.inr (some 35))]) (w' := (SH, (u2 dt14 35 8 ((dt14 35 8) + 1)))) rfl ?_
        refine go_callq PM32 PM33 (Q' := _) rfl rfl rfl rfl (sp_X1_sum_f L xs sio (d + 0) (u2 dt14 35 8 ((dt14 35 8) + 1)) hI22 K V S t hz ht  (by first | assumption | exact TKc_fr h_p0 hF23 (by decide) (by decide) (by decide) (by omega) | omega) (by first | assumption | exact TKc_fr h_p0 hF23 (by decide) (by decide) (by decide) (by omega) | omega) (by first | assumption | exact TKc_fr h_p0 hF23 (by decide) (by decide) (by decide) (by omega) | omega)) ?_
        rintro _ _ ⟨dt32, rfl, hI33, hF34, h31⟩
        refine ⟨rfl, ?_⟩
        have hF35 : Fr [35, 42] dt dt32 := Fr_tr hF23 hF34 (by decide)
        rcases h31 with ⟨rfl, h31⟩
        obtain ⟨h31_0, h31_1, h31_2, h31_3, h31_4, h31_5⟩ := h31
        have X36 : PX S t (gC K V 0) gOk dt dt32 := PX_st X29 h31_0 (fun hl => by first | exact gB_id.symm | (exfalso; omega))
        refine go_ifq PM32 (k := 3) (p1 := 88) (p2 := 83) (L' := [some (.inr (.inr (some 35))), some (.inl 8), some (.inl 0), some (.inl v_h19)]) (st' := [.inr (.inr (some 35))]) (w' := (SH, dt32)) rfl (c_ne (a := v_h19) (b := 60) (by first | exact bnd h19r (by decide) (by decide) | exact ⟨by omega, by omega⟩) ⟨by decide, by decide⟩) (fun c37 => ?_) (fun c37 => ?_)
        · skip
          refine go_ifq PM32 (k := 2) (p1 := 99) (p2 := 94) (L' := [some (.inr (.inr (some 35))), some (.inl 8), some (.inl 0), some (.inl v_h19)]) (st' := [.inr (.inr (some 35))]) (w' := (SH, dt32)) rfl (c_ne (a := v_h19) (b := 61) (by first | exact bnd h19r (by decide) (by decide) | exact ⟨by omega, by omega⟩) ⟨by decide, by decide⟩) (fun c38 => ?_) (fun c38 => ?_)
          · skip
            refine go_toq PM32 (k := 1) (pc' := 101) (L' := [some (.inr (.inr (some 35))), some (.inl 8), some (.inl 0), some (.inl v_h19)]) (st' := [.inl (-7), .inr (.inr (some 35))]) (w' := (SH, dt32)) rfl ?_
            refine go_callq PM32 PM30 (Q' := _) rfl rfl rfl rfl (sp_X1_emit_f L xs sio (d + 2) dt32 hI33  (-7) ⟨by decide, by decide⟩ ) ?_
            rintro _ _ ⟨dt40, rfl, hI41, hF42, h39⟩
            refine ⟨rfl, ?_⟩
            have hF43 : Fr [35, 42] dt dt40 := Fr_tr hF35 hF42 (by decide)
            rcases h39 with ⟨rfl, h39⟩
            obtain ⟨h39_0, h39_1, h39_2, h39_3, h39_4⟩ := h39
            have X44 : PX S t (gC K V 0) gOk dt dt40 := PX_sm X36 (by omega) (by omega) (by omega)
            have ek45 : (dt40 35 8).toNat = (dt32 35 8).toNat := by omega
            have kk46 : K (dt40 35 8).toNat = K (dt32 35 8).toNat := congrArg K ek45
            have kk47 : V (dt40 35 8).toNat = V (dt32 35 8).toNat := congrArg V ek45
            refine go_retq PM32 (k := 1) (r := none) (w1 := (SH, dt40)) rfl ?_
            exact ⟨dt40, rfl, hI41, hF43, ⟨rfl, ⟨by exact PX_e X44 (by omega), by first | exact True.intro | assumption | rfl | omega | trivial, by first | exact True.intro | assumption | rfl | omega | trivial, by first | exact True.intro | assumption | rfl | omega | trivial, by first | exact True.intro | assumption | rfl | omega | trivial, by first | exact True.intro | assumption | rfl | omega | trivial⟩⟩⟩
          · exfalso; omega
        · skip
          refine go_toq PM32 (k := 2) (pc' := 101) (L' := [some (.inr (.inr (some 35))), some (.inl 8), some (.inl 0), some (.inl v_h19)]) (st' := [.inl (-5), .inr (.inr (some 35))]) (w' := (SH, dt32)) rfl ?_
          refine go_callq PM32 PM30 (Q' := _) rfl rfl rfl rfl (sp_X1_emit_f L xs sio (d + 2) dt32 hI33  (-5) ⟨by decide, by decide⟩ ) ?_
          rintro _ _ ⟨dt49, rfl, hI50, hF51, h48⟩
          refine ⟨rfl, ?_⟩
          have hF52 : Fr [35, 42] dt dt49 := Fr_tr hF35 hF51 (by decide)
          rcases h48 with ⟨rfl, h48⟩
          obtain ⟨h48_0, h48_1, h48_2, h48_3, h48_4⟩ := h48
          have X53 : PX S t (gC K V 0) gOk dt dt49 := PX_sm X36 (by omega) (by omega) (by omega)
          have ek54 : (dt49 35 8).toNat = (dt32 35 8).toNat := by omega
          have kk55 : K (dt49 35 8).toNat = K (dt32 35 8).toNat := congrArg K ek54
          have kk56 : V (dt49 35 8).toNat = V (dt32 35 8).toNat := congrArg V ek54
          refine go_retq PM32 (k := 1) (r := none) (w1 := (SH, dt49)) rfl ?_
          exact ⟨dt49, rfl, hI50, hF52, ⟨rfl, ⟨by exact PX_e X53 (by omega), by first | exact True.intro | assumption | rfl | omega | trivial, by first | exact True.intro | assumption | rfl | omega | trivial, by first | exact True.intro | assumption | rfl | omega | trivial, by first | exact True.intro | assumption | rfl | omega | trivial, by first | exact True.intro | assumption | rfl | omega | trivial⟩⟩⟩
      · skip
        refine go_ifq PM32 (k := 2) (p1 := 62) (p2 := 50) (L' := [some (.inr (.inr (some 35))), some (.inl 8), some (.inl 0), some (.inl v_h19)]) (st' := []) (w' := (SH, dt14)) rfl (c_eq (a := v_h19) (b := 61) (by first | exact bnd h19r (by decide) (by decide) | exact ⟨by omega, by omega⟩) ⟨by decide, by decide⟩) (fun c57 => ?_) (fun c57 => ?_)
        · skip
          refine go_toq PM32 (k := 5) (pc' := 69) (L' := [some (.inr (.inr (some 35))), some (.inl 8), some (.inl 0), some (.inl v_h19)]) (st' := [.inl ((dt14 35 8) + 1), .inr (.inr (some 35))]) (w' := (SH, dt14)) rfl ?_
          have hI58 : InvC (u2 dt14 35 8 ((dt14 35 8) + 1)) := InvC_u2 hI15 (lo := -2147483648) (hi := 2147483647) rfl rfl rfl (by omega) (by omega)
          have hF59 : Fr [35, 42] dt (u2 dt14 35 8 ((dt14 35 8) + 1)) := Fr_u2 hF17 (by decide)
          have w60 : (u2 dt14 35 8 ((dt14 35 8) + 1)) 35 1 = dt14 35 1 := rfl
          have w61 : (u2 dt14 35 8 ((dt14 35 8) + 1)) 35 2 = dt14 35 2 := rfl
          have w62 : (u2 dt14 35 8 ((dt14 35 8) + 1)) 35 3 = dt14 35 3 := rfl
          have w63 : (u2 dt14 35 8 ((dt14 35 8) + 1)) 35 7 = dt14 35 7 := rfl
          have w64 : (u2 dt14 35 8 ((dt14 35 8) + 1)) 35 8 = (dt14 35 8) + 1 := rfl
          have lv66 := KLIVE hz (D := dt14) (by omega) (by omega) (by omega)
          have X65 : PX S t (gC K V 0) (gE K V) dt (u2 dt14 35 8 ((dt14 35 8) + 1)) := PX_st X18 (SPX_inc hz (by omega) (by omega) (by omega) (by omega) (by omega)) (fun hl => by first | (show (gR1 K V) (dt14 35 8).toNat = (gE K V) ((dt14 35 8).toNat + 1); unfold gR1; rw [if_pos (by omega)]) | (exfalso; omega))
          refine go_smpq PM32 (L' := [some (.inr (.inr (some 35))), some (.inl 8), some (.inl 0), some (.inl v_h19)]) (st' := []) (w' := (SH, (u2 dt14 35 8 ((dt14 35 8) + 1)))) rfl rfl (s_pf rfl rfl rfl rfl ⟨by omega, by omega⟩) ?_
          refine go_toq PM32 (k := 1) (pc' := 73) (L' := [some (.inr (.inr (some 35))), some (.inl 8), some (.inl 0), some (.inl v_h19)]) (st' := [.inr (.inr (some 35))]) (w' := (SH, (u2 dt14 35 8 ((dt14 35 8) + 1)))) rfl ?_
          refine go_callq PM32 PM33 (Q' := _) rfl rfl rfl rfl (sp_X1_sum_f L xs sio (d + 0) (u2 dt14 35 8 ((dt14 35 8) + 1)) hI58 K V S t hz ht  (by first | assumption | exact TKc_fr h_p0 hF59 (by decide) (by decide) (by decide) (by omega) | omega) (by first | assumption | exact TKc_fr h_p0 hF59 (by decide) (by decide) (by decide) (by omega) | omega) (by first | assumption | exact TKc_fr h_p0 hF59 (by decide) (by decide) (by decide) (by omega) | omega)) ?_
          rintro _ _ ⟨dt68, rfl, hI69, hF70, h67⟩
          refine ⟨rfl, ?_⟩
          have hF71 : Fr [35, 42] dt dt68 := Fr_tr hF59 hF70 (by decide)
          rcases h67 with ⟨rfl, h67⟩
          obtain ⟨h67_0, h67_1, h67_2, h67_3, h67_4, h67_5⟩ := h67
          have X72 : PX S t (gC K V 0) gOk dt dt68 := PX_st X65 h67_0 (fun hl => by first | exact gB_id.symm | (exfalso; omega))
          refine go_ifq PM32 (k := 3) (p1 := 88) (p2 := 83) (L' := [some (.inr (.inr (some 35))), some (.inl 8), some (.inl 0), some (.inl v_h19)]) (st' := [.inr (.inr (some 35))]) (w' := (SH, dt68)) rfl (c_ne (a := v_h19) (b := 60) (by first | exact bnd h19r (by decide) (by decide) | exact ⟨by omega, by omega⟩) ⟨by decide, by decide⟩) (fun c73 => ?_) (fun c73 => ?_)
          · skip
            refine go_ifq PM32 (k := 2) (p1 := 99) (p2 := 94) (L' := [some (.inr (.inr (some 35))), some (.inl 8), some (.inl 0), some (.inl v_h19)]) (st' := [.inr (.inr (some 35))]) (w' := (SH, dt68)) rfl (c_ne (a := v_h19) (b := 61) (by first | exact bnd h19r (by decide) (by decide) | exact ⟨by omega, by omega⟩) ⟨by decide, by decide⟩) (fun c74 => ?_) (fun c74 => ?_)
            · skip
              refine go_toq PM32 (k := 1) (pc' := 101) (L' := [some (.inr (.inr (some 35))), some (.inl 8), some (.inl 0), some (.inl v_h19)]) (st' := [.inl (-7), .inr (.inr (some 35))]) (w' := (SH, dt68)) rfl ?_
              refine go_callq PM32 PM30 (Q' := _) rfl rfl rfl rfl (sp_X1_emit_f L xs sio (d + 2) dt68 hI69  (-7) ⟨by decide, by decide⟩ ) ?_
              rintro _ _ ⟨dt76, rfl, hI77, hF78, h75⟩
              refine ⟨rfl, ?_⟩
              have hF79 : Fr [35, 42] dt dt76 := Fr_tr hF71 hF78 (by decide)
              rcases h75 with ⟨rfl, h75⟩
              obtain ⟨h75_0, h75_1, h75_2, h75_3, h75_4⟩ := h75
              have X80 : PX S t (gC K V 0) gOk dt dt76 := PX_sm X72 (by omega) (by omega) (by omega)
              have ek81 : (dt76 35 8).toNat = (dt68 35 8).toNat := by omega
              have kk82 : K (dt76 35 8).toNat = K (dt68 35 8).toNat := congrArg K ek81
              have kk83 : V (dt76 35 8).toNat = V (dt68 35 8).toNat := congrArg V ek81
              refine go_retq PM32 (k := 1) (r := none) (w1 := (SH, dt76)) rfl ?_
              exact ⟨dt76, rfl, hI77, hF79, ⟨rfl, ⟨by exact PX_e X80 (by omega), by first | exact True.intro | assumption | rfl | omega | trivial, by first | exact True.intro | assumption | rfl | omega | trivial, by first | exact True.intro | assumption | rfl | omega | trivial, by first | exact True.intro | assumption | rfl | omega | trivial, by first | exact True.intro | assumption | rfl | omega | trivial⟩⟩⟩
            · skip
              refine go_toq PM32 (k := 2) (pc' := 101) (L' := [some (.inr (.inr (some 35))), some (.inl 8), some (.inl 0), some (.inl v_h19)]) (st' := [.inl (-6), .inr (.inr (some 35))]) (w' := (SH, dt68)) rfl ?_
              refine go_callq PM32 PM30 (Q' := _) rfl rfl rfl rfl (sp_X1_emit_f L xs sio (d + 2) dt68 hI69  (-6) ⟨by decide, by decide⟩ ) ?_
              rintro _ _ ⟨dt85, rfl, hI86, hF87, h84⟩
              refine ⟨rfl, ?_⟩
              have hF88 : Fr [35, 42] dt dt85 := Fr_tr hF71 hF87 (by decide)
              rcases h84 with ⟨rfl, h84⟩
              obtain ⟨h84_0, h84_1, h84_2, h84_3, h84_4⟩ := h84
              have X89 : PX S t (gC K V 0) gOk dt dt85 := PX_sm X72 (by omega) (by omega) (by omega)
              have ek90 : (dt85 35 8).toNat = (dt68 35 8).toNat := by omega
              have kk91 : K (dt85 35 8).toNat = K (dt68 35 8).toNat := congrArg K ek90
              have kk92 : V (dt85 35 8).toNat = V (dt68 35 8).toNat := congrArg V ek90
              refine go_retq PM32 (k := 1) (r := none) (w1 := (SH, dt85)) rfl ?_
              exact ⟨dt85, rfl, hI86, hF88, ⟨rfl, ⟨by exact PX_e X89 (by omega), by first | exact True.intro | assumption | rfl | omega | trivial, by first | exact True.intro | assumption | rfl | omega | trivial, by first | exact True.intro | assumption | rfl | omega | trivial, by first | exact True.intro | assumption | rfl | omega | trivial, by first | exact True.intro | assumption | rfl | omega | trivial⟩⟩⟩
          · exfalso; omega
        · skip
          refine go_ifq PM32 (k := 2) (p1 := 62) (p2 := 56) (L' := [some (.inr (.inr (some 35))), some (.inl 8), some (.inl 0), some (.inl v_h19)]) (st' := []) (w' := (SH, dt14)) rfl (c_eq (a := v_h19) (b := 62) (by first | exact bnd h19r (by decide) (by decide) | exact ⟨by omega, by omega⟩) ⟨by decide, by decide⟩) (fun c93 => ?_) (fun c93 => ?_)
          · skip
            refine go_toq PM32 (k := 5) (pc' := 69) (L' := [some (.inr (.inr (some 35))), some (.inl 8), some (.inl 0), some (.inl v_h19)]) (st' := [.inl ((dt14 35 8) + 1), .inr (.inr (some 35))]) (w' := (SH, dt14)) rfl ?_
            have hI94 : InvC (u2 dt14 35 8 ((dt14 35 8) + 1)) := InvC_u2 hI15 (lo := -2147483648) (hi := 2147483647) rfl rfl rfl (by omega) (by omega)
            have hF95 : Fr [35, 42] dt (u2 dt14 35 8 ((dt14 35 8) + 1)) := Fr_u2 hF17 (by decide)
            have w96 : (u2 dt14 35 8 ((dt14 35 8) + 1)) 35 1 = dt14 35 1 := rfl
            have w97 : (u2 dt14 35 8 ((dt14 35 8) + 1)) 35 2 = dt14 35 2 := rfl
            have w98 : (u2 dt14 35 8 ((dt14 35 8) + 1)) 35 3 = dt14 35 3 := rfl
            have w99 : (u2 dt14 35 8 ((dt14 35 8) + 1)) 35 7 = dt14 35 7 := rfl
            have w100 : (u2 dt14 35 8 ((dt14 35 8) + 1)) 35 8 = (dt14 35 8) + 1 := rfl
            have lv102 := KLIVE hz (D := dt14) (by omega) (by omega) (by omega)
            have X101 : PX S t (gC K V 0) (gE K V) dt (u2 dt14 35 8 ((dt14 35 8) + 1)) := PX_st X18 (SPX_inc hz (by omega) (by omega) (by omega) (by omega) (by omega)) (fun hl => by first | (show (gR1 K V) (dt14 35 8).toNat = (gE K V) ((dt14 35 8).toNat + 1); unfold gR1; rw [if_pos (by omega)]) | (exfalso; omega))
            refine go_smpq PM32 (L' := [some (.inr (.inr (some 35))), some (.inl 8), some (.inl 0), some (.inl v_h19)]) (st' := []) (w' := (SH, (u2 dt14 35 8 ((dt14 35 8) + 1)))) rfl rfl (s_pf rfl rfl rfl rfl ⟨by omega, by omega⟩) ?_
            refine go_toq PM32 (k := 1) (pc' := 73) (L' := [some (.inr (.inr (some 35))), some (.inl 8), some (.inl 0), some (.inl v_h19)]) (st' := [.inr (.inr (some 35))]) (w' := (SH, (u2 dt14 35 8 ((dt14 35 8) + 1)))) rfl ?_
            refine go_callq PM32 PM33 (Q' := _) rfl rfl rfl rfl (sp_X1_sum_f L xs sio (d + 0) (u2 dt14 35 8 ((dt14 35 8) + 1)) hI94 K V S t hz ht  (by first | assumption | exact TKc_fr h_p0 hF95 (by decide) (by decide) (by decide) (by omega) | omega) (by first | assumption | exact TKc_fr h_p0 hF95 (by decide) (by decide) (by decide) (by omega) | omega) (by first | assumption | exact TKc_fr h_p0 hF95 (by decide) (by decide) (by decide) (by omega) | omega)) ?_
            rintro _ _ ⟨dt104, rfl, hI105, hF106, h103⟩
            refine ⟨rfl, ?_⟩
            have hF107 : Fr [35, 42] dt dt104 := Fr_tr hF95 hF106 (by decide)
            rcases h103 with ⟨rfl, h103⟩
            obtain ⟨h103_0, h103_1, h103_2, h103_3, h103_4, h103_5⟩ := h103
            have X108 : PX S t (gC K V 0) gOk dt dt104 := PX_st X101 h103_0 (fun hl => by first | exact gB_id.symm | (exfalso; omega))
            refine go_ifq PM32 (k := 3) (p1 := 88) (p2 := 83) (L' := [some (.inr (.inr (some 35))), some (.inl 8), some (.inl 0), some (.inl v_h19)]) (st' := [.inr (.inr (some 35))]) (w' := (SH, dt104)) rfl (c_ne (a := v_h19) (b := 60) (by first | exact bnd h19r (by decide) (by decide) | exact ⟨by omega, by omega⟩) ⟨by decide, by decide⟩) (fun c109 => ?_) (fun c109 => ?_)
            · skip
              refine go_ifq PM32 (k := 2) (p1 := 99) (p2 := 94) (L' := [some (.inr (.inr (some 35))), some (.inl 8), some (.inl 0), some (.inl v_h19)]) (st' := [.inr (.inr (some 35))]) (w' := (SH, dt104)) rfl (c_ne (a := v_h19) (b := 61) (by first | exact bnd h19r (by decide) (by decide) | exact ⟨by omega, by omega⟩) ⟨by decide, by decide⟩) (fun c110 => ?_) (fun c110 => ?_)
              · skip
                refine go_toq PM32 (k := 1) (pc' := 101) (L' := [some (.inr (.inr (some 35))), some (.inl 8), some (.inl 0), some (.inl v_h19)]) (st' := [.inl (-7), .inr (.inr (some 35))]) (w' := (SH, dt104)) rfl ?_
                refine go_callq PM32 PM30 (Q' := _) rfl rfl rfl rfl (sp_X1_emit_f L xs sio (d + 2) dt104 hI105  (-7) ⟨by decide, by decide⟩ ) ?_
                rintro _ _ ⟨dt112, rfl, hI113, hF114, h111⟩
                refine ⟨rfl, ?_⟩
                have hF115 : Fr [35, 42] dt dt112 := Fr_tr hF107 hF114 (by decide)
                rcases h111 with ⟨rfl, h111⟩
                obtain ⟨h111_0, h111_1, h111_2, h111_3, h111_4⟩ := h111
                have X116 : PX S t (gC K V 0) gOk dt dt112 := PX_sm X108 (by omega) (by omega) (by omega)
                have ek117 : (dt112 35 8).toNat = (dt104 35 8).toNat := by omega
                have kk118 : K (dt112 35 8).toNat = K (dt104 35 8).toNat := congrArg K ek117
                have kk119 : V (dt112 35 8).toNat = V (dt104 35 8).toNat := congrArg V ek117
                refine go_retq PM32 (k := 1) (r := none) (w1 := (SH, dt112)) rfl ?_
                exact ⟨dt112, rfl, hI113, hF115, ⟨rfl, ⟨by exact PX_e X116 (by omega), by first | exact True.intro | assumption | rfl | omega | trivial, by first | exact True.intro | assumption | rfl | omega | trivial, by first | exact True.intro | assumption | rfl | omega | trivial, by first | exact True.intro | assumption | rfl | omega | trivial, by first | exact True.intro | assumption | rfl | omega | trivial⟩⟩⟩
              · exfalso; omega
            · exfalso; omega
          · skip
            refine go_toq PM32 (k := 2) (pc' := 58) (L' := [some (.inr (.inr (some 35))), some (.inl 8), some (.inl 0), some (.inl v_h19)]) (st' := [.inl 1, .inr (.inr (some 35))]) (w' := (SH, dt14)) rfl ?_
            refine go_callq PM32 PM21 (Q' := _) rfl rfl rfl rfl (sp_X1_fail_f L xs sio (d + 2) dt14 hI15 K V S t hz ht 1 ⟨by decide, by decide⟩ (by first | assumption | exact TKc_fr h_p0 hF17 (by decide) (by decide) (by decide) (by omega) | omega) (by first | assumption | exact TKc_fr h_p0 hF17 (by decide) (by decide) (by decide) (by omega) | omega) (by first | assumption | exact TKc_fr h_p0 hF17 (by decide) (by decide) (by decide) (by omega) | omega)) ?_
            rintro _ _ ⟨dt121, rfl, hI122, hF123, h120⟩
            refine ⟨rfl, ?_⟩
            have hF124 : Fr [35, 42] dt dt121 := Fr_tr hF17 hF123 (by decide)
            rcases h120 with ⟨rfl, h120⟩
            obtain ⟨h120_0, h120_1, h120_2, h120_3, h120_4⟩ := h120
            have X125 : PX S t (gC K V 0) gOk dt dt121 := PX_st X18 h120_0 (fun hl => by first | exact (by unfold gR1; rw [if_neg (by omega)] : _ = ((1 : Int), (dt14 35 8).toNat)).trans (gB_no (by show ¬ ((1 : Int) = 0); omega)).symm | (exfalso; omega))
            refine go_retq PM32 (k := 0) (r := none) (w1 := (SH, dt121)) rfl ?_
            exact ⟨dt121, rfl, hI122, hF124, ⟨rfl, ⟨by exact PX_e X125 (by omega), by first | exact True.intro | assumption | rfl | omega | trivial, by first | exact True.intro | assumption | rfl | omega | trivial, by first | exact True.intro | assumption | rfl | omega | trivial, by first | exact True.intro | assumption | rfl | omega | trivial, by first | exact True.intro | assumption | rfl | omega | trivial⟩⟩⟩
  · skip
    refine go_toq PM32 (k := 10) (pc' := 115) (L' := [some (.inr (.inr (some 35))), some (.inl 8), some (.inl 1), none]) (st' := [.inl 3, .inr (.inr (some 35))]) (w' := (SH, dt)) rfl ?_
    refine go_callq PM32 PM21 (Q' := _) rfl rfl rfl rfl (sp_X1_fail_f L xs sio (d + 2) dt hI K V S t hz ht 3 ⟨by decide, by decide⟩ (by first | assumption | exact TKc_fr h_p0 hF (by decide) (by decide) (by decide) (by omega) | omega) (by first | assumption | exact TKc_fr h_p0 hF (by decide) (by decide) (by decide) (by omega) | omega) (by first | assumption | exact TKc_fr h_p0 hF (by decide) (by decide) (by decide) (by omega) | omega)) ?_
    rintro _ _ ⟨dt127, rfl, hI128, hF129, h126⟩
    refine ⟨rfl, ?_⟩
    have hF130 : Fr [35, 42] dt dt127 := Fr_tr hF hF129 (by decide)
    rcases h126 with ⟨rfl, h126⟩
    obtain ⟨h126_0, h126_1, h126_2, h126_3, h126_4⟩ := h126
    have X131 : PX S t (gC K V 0) gOk dt dt127 := PX_st PX_0 h126_0 (fun hl => by first | exact (by exact gC_3 (by omega) : _ = ((3 : Int), (dt 35 8).toNat)).trans (gB_no (by show ¬ ((3 : Int) = 0); omega)).symm | (exfalso; omega))
    refine go_retq PM32 (k := 1) (r := none) (w1 := (SH, dt127)) rfl ?_
    exact ⟨dt127, rfl, hI128, hF130, ⟨rfl, ⟨by exact PX_e X131 (by omega), by first | exact True.intro | assumption | rfl | omega | trivial, by first | exact True.intro | assumption | rfl | omega | trivial, by first | exact True.intro | assumption | rfl | omega | trivial, by first | exact True.intro | assumption | rfl | omega | trivial, by first | exact True.intro | assumption | rfl | omega | trivial⟩⟩⟩
theorem lv_X1_condition_f (L : Nat) (xs : Nat → Int32) (sio : Option Nat) (d : Nat) (dt : Nat → Nat → Int) (hI : InvC dt) (K V S : Nat → Int) (t : Nat) (hz : KZ K t) (ht : t ≤ 500) (j : Nat) (IH_X1_single : ∀ (L : Nat) (xs : Nat → Int32) (sio : Option Nat) (d : Nat) (dt : Nat → Nat → Int) (hI : InvC dt) (K V S : Nat → Int) (t : Nat) (hz : KZ K t) (ht : t ≤ 500) (p1 : Int) (h_p1 : 0 ≤ p1 ∧ p1 ≤ 8) (h_p0 : TKc K V S t dt) (h_p1 : 0 ≤ dt 35 8 ∧ dt 35 8 ≤ (t : Int)) (h_p2 : ¬ dt 35 2 = 0 → dt 35 8 = (t : Int)) (h_p3 : p1 + ((j : Nat) : Int) = 8) (h_p4 : 2 * j ≤ d), GO (am_XX L xs sio) (d + 3) 32 0 [some (.inr (.inr (some 35))), some (.inl p1), none, none] [] (SH, dt) (fun r w2 => ∃ dt2 : Nat → Nat → Int, w2 = (SH, dt2) ∧ InvC dt2 ∧ Fr [35, 42] dt dt2 ∧ ((r = none ∧ (SPX S t dt dt2 (gC K V j)) ∧ (0 ≤ dt2 35 8 ∧ dt2 35 8 ≤ (t : Int)) ∧ (¬ dt2 35 2 = 0 → dt2 35 8 = (t : Int)) ∧ (dt 35 8 ≤ dt2 35 8) ∧ (dt2 35 1 = dt 35 1) ∧ (dt2 35 7 = dt 35 7)))))  (p1 : Int) (h_p1 : 0 ≤ p1 ∧ p1 ≤ 8) (h_p0 : TKc K V S t dt) (h_p1 : 0 ≤ dt 35 8 ∧ dt 35 8 ≤ (t : Int)) (h_p2 : ¬ dt 35 2 = 0 → dt 35 8 = (t : Int)) (h_p3 : p1 + ((j : Nat) : Int) = 8) (h_p4 : 2 * j ≤ d) : GO (am_XX L xs sio) (d + 4) 31 0 [some (.inr (.inr (some 35))), some (.inl p1), none, none] [] (SH, dt) (fun r w2 => ∃ dt2 : Nat → Nat → Int, w2 = (SH, dt2) ∧ InvC dt2 ∧ Fr [35, 42] dt dt2 ∧ ((r = none ∧ (SPX S t dt dt2 (gB_ K V j)) ∧ (0 ≤ dt2 35 8 ∧ dt2 35 8 ≤ (t : Int)) ∧ (¬ dt2 35 2 = 0 → dt2 35 8 = (t : Int)) ∧ (dt 35 8 ≤ dt2 35 8) ∧ (dt2 35 1 = dt 35 1) ∧ (dt2 35 7 = dt 35 7)))) := by
  have hF : Fr [35, 42] dt dt := Fr_refl
  have h7 : dt 35 7 = (t : Int) + 1 := h_p0.1
  have hk0 := TKc_k h_p0 h_p1
  have hv0 := TKc_v h_p0 h_p1
  have hs0 := TKc_s h_p0 h_p1
  refine go_toq PM31 (k := 4) (pc' := 4) (L' := [some (.inr (.inr (some 35))), some (.inl p1), some (.inl 0), none]) (st' := [.inl p1, .inr (.inr (some 35))]) (w' := (SH, dt)) rfl ?_
  refine go_callq PM31 PM32 (Q' := _) rfl rfl rfl rfl (IH_X1_single L xs sio (d + 0) dt hI K V S t hz ht p1 (by first | exact h_p1 | exact bnd h_p1 (by decide) (by decide) | exact ⟨by omega, by omega⟩) (by first | assumption | exact TKc_fr h_p0 hF (by decide) (by decide) (by decide) (by omega) | omega) (by first | assumption | exact TKc_fr h_p0 hF (by decide) (by decide) (by decide) (by omega) | omega) (by first | assumption | exact TKc_fr h_p0 hF (by decide) (by decide) (by decide) (by omega) | omega) (by first | assumption | exact TKc_fr h_p0 hF (by decide) (by decide) (by decide) (by omega) | omega) (by first | assumption | exact TKc_fr h_p0 hF (by decide) (by decide) (by decide) (by omega) | omega)) ?_
  rintro _ _ ⟨dt2, rfl, hI3, hF4, h1⟩
  refine ⟨rfl, ?_⟩
  have hF5 : Fr [35, 42] dt dt2 := Fr_tr hF hF4 (by decide)
  rcases h1 with ⟨rfl, h1⟩
  obtain ⟨h1_0, h1_1, h1_2, h1_3, h1_4, h1_5⟩ := h1
  have X6 : PX S t (gB_ K V j) (gL K (gC K V j) 600) dt dt2 := PX_st PX_0 h1_0 (fun hl => by first | exact rfl | (exfalso; omega))
  refine go_toq PM31 (k := 2) (pc' := 9) (L' := [some (.inr (.inr (some 35))), some (.inl p1), some (.inl 0), some (.inl 0)]) (st' := []) (w' := (SH, dt2)) rfl ?_
  have loop305 : ∀ (k_ : Nat) (l9_2 : Int) (l9_3 : Int) (dt291 : Nat → Nat → Int) (hI292 : InvC dt291) (hF293 : Fr [35, 42] dt dt291) (i294 : 0 ≤ l9_2 ∧ l9_2 ≤ 1) (i295 : 0 ≤ l9_3 ∧ l9_3 ≤ 501) (i296 : PX S t (gB_ K V j) (gL K (gC K V j) 600) dt dt291) (i297 : l9_3 ≤ dt291 35 8) (i298 : 0 ≤ dt291 35 8 ∧ dt291 35 8 ≤ (t : Int)) (i299 : ¬ dt291 35 2 = 0 → dt291 35 8 = (t : Int)) (i300 : dt291 35 7 = dt 35 7) (i301 : dt291 35 1 = dt 35 1) (i302 : dt 35 8 ≤ dt291 35 8) (i303 : dt291 35 1 = dt 35 1) (i304 : dt291 35 7 = dt 35 7), (502 - l9_3).toNat < k_ → GO (am_XX L xs sio) (d + 4) 31 9 [some (.inr (.inr (some 35))), some (.inl p1), some (.inl l9_2), some (.inl l9_3)] [] (SH, dt291) (fun r w2 => ∃ dt2 : Nat → Nat → Int, w2 = (SH, dt2) ∧ InvC dt2 ∧ Fr [35, 42] dt dt2 ∧ ((r = none ∧ (SPX S t dt dt2 (gB_ K V j)) ∧ (0 ≤ dt2 35 8 ∧ dt2 35 8 ≤ (t : Int)) ∧ (¬ dt2 35 2 = 0 → dt2 35 8 = (t : Int)) ∧ (dt 35 8 ≤ dt2 35 8) ∧ (dt2 35 1 = dt 35 1) ∧ (dt2 35 7 = dt 35 7)))) := by
    intro k_
    induction k_ with
    | zero => intro l9_2 l9_3 dt291 hI292 hF293 i294 i295 i296 i297 i298 i299 i300 i301 i302 i303 i304 hm; exact absurd hm (Nat.not_lt_zero _)
    | succ k_ ih_loop305 =>
      intro l9_2 l9_3 dt291 hI292 hF293 i294 i295 i296 i297 i298 i299 i300 i301 i302 i303 i304 hm
      have qX := i296
      refine go_ifq PM31 (k := 2) (p1 := 103) (p2 := 16) (L' := [some (.inr (.inr (some 35))), some (.inl p1), some (.inl l9_2), some (.inl l9_3)]) (st' := []) (w' := (SH, dt291)) rfl (c_gt (a := l9_3) (b := 500) (by first | exact bnd i295 (by decide) (by decide) | exact ⟨by omega, by omega⟩) ⟨by decide, by decide⟩) (fun c306 => ?_) (fun c306 => ?_)
      · skip
        refine go_ifq PM31 (k := 1) (p1 := 113) (p2 := 107) (L' := [some (.inr (.inr (some 35))), some (.inl p1), some (.inl l9_2), some (.inl l9_3)]) (st' := []) (w' := (SH, dt291)) rfl (z_eq (a := l9_2) (by first | exact bnd i294 (by decide) (by decide) | exact ⟨by omega, by omega⟩)) (fun c307 => ?_) (fun c307 => ?_)
        · skip
          refine go_retq PM31 (k := 0) (r := none) (w1 := (SH, dt291)) rfl ?_
          exact ⟨dt291, rfl, hI292, hF293, ⟨rfl, ⟨by exact PX_e (PX_g qX (fun _ => by rw [gL_u (gC_M hz _) (by omega) (by omega), if_neg (by omega)]; rfl)) (by omega), by first | exact True.intro | assumption | rfl | omega | trivial, by first | exact True.intro | assumption | rfl | omega | trivial, by first | exact True.intro | assumption | rfl | omega | trivial, by first | exact True.intro | assumption | rfl | omega | trivial, by first | exact True.intro | assumption | rfl | omega | trivial⟩⟩⟩
        · skip
          refine go_toq PM31 (k := 2) (pc' := 110) (L' := [some (.inr (.inr (some 35))), some (.inl p1), some (.inl l9_2), some (.inl l9_3)]) (st' := [.inl (-10), .inr (.inr (some 35))]) (w' := (SH, dt291)) rfl ?_
          refine go_callq PM31 PM30 (Q' := _) rfl rfl rfl rfl (sp_X1_emit_f L xs sio (d + 3) dt291 hI292  (-10) ⟨by decide, by decide⟩ ) ?_
          rintro _ _ ⟨dt309, rfl, hI310, hF311, h308⟩
          refine ⟨rfl, ?_⟩
          have hF312 : Fr [35, 42] dt dt309 := Fr_tr hF293 hF311 (by decide)
          rcases h308 with ⟨rfl, h308⟩
          obtain ⟨h308_0, h308_1, h308_2, h308_3, h308_4⟩ := h308
          have X313 : PX S t (gB_ K V j) (gL K (gC K V j) 600) dt dt309 := PX_sm qX (by omega) (by omega) (by omega)
          have ek314 : (dt309 35 8).toNat = (dt291 35 8).toNat := by omega
          have kk315 : K (dt309 35 8).toNat = K (dt291 35 8).toNat := congrArg K ek314
          have kk316 : V (dt309 35 8).toNat = V (dt291 35 8).toNat := congrArg V ek314
          refine go_retq PM31 (k := 0) (r := none) (w1 := (SH, dt309)) rfl ?_
          exact ⟨dt309, rfl, hI310, hF312, ⟨rfl, ⟨by exact PX_e (PX_g X313 (fun _ => by rw [gL_u (gC_M hz _) (by omega) (by omega), if_neg (by omega)]; rfl)) (by omega), by first | exact True.intro | assumption | rfl | omega | trivial, by first | exact True.intro | assumption | rfl | omega | trivial, by first | exact True.intro | assumption | rfl | omega | trivial, by first | exact True.intro | assumption | rfl | omega | trivial, by first | exact True.intro | assumption | rfl | omega | trivial⟩⟩⟩
      · skip
        refine go_toq PM31 (k := 1) (pc' := 17) (L' := [some (.inr (.inr (some 35))), some (.inl p1), some (.inl l9_2), some (.inl l9_3)]) (st' := [.inr (.inr (some 35))]) (w' := (SH, dt291)) rfl ?_
        refine go_callq PM31 PM20 (Q' := _) rfl rfl rfl rfl (sp_X1_token_f L xs sio (d + 3) dt291 hI292 K V S t hz ht  (by first | assumption | exact TKc_fr h_p0 hF293 (by decide) (by decide) (by decide) (by omega) | omega) (by first | assumption | exact TKc_fr h_p0 hF293 (by decide) (by decide) (by decide) (by omega) | omega) (by first | assumption | exact TKc_fr h_p0 hF293 (by decide) (by decide) (by decide) (by omega) | omega)) ?_
        rintro _ _ ⟨rfl, h317⟩
        refine ⟨rfl, ?_⟩
        rcases h317 with ⟨v_h317, rfl, h317r, h317⟩
        refine go_ifq PM31 (k := 1) (p1 := 36) (p2 := 26) (L' := [some (.inr (.inr (some 35))), some (.inl p1), some (.inl l9_2), some (.inl l9_3)]) (st' := []) (w' := (SH, dt291)) rfl (c_eq (a := v_h317) (b := 1004) (by first | exact bnd h317r (by decide) (by decide) | exact ⟨by omega, by omega⟩) ⟨by decide, by decide⟩) (fun c319 => ?_) (fun c319 => ?_)
        · skip
          refine go_toq PM31 (k := 1) (pc' := 37) (L' := [some (.inr (.inr (some 35))), some (.inl p1), some (.inl l9_2), some (.inl l9_3)]) (st' := [.inr (.inr (some 35))]) (w' := (SH, dt291)) rfl ?_
          refine go_callq PM31 PM20 (Q' := _) rfl rfl rfl rfl (sp_X1_token_f L xs sio (d + 3) dt291 hI292 K V S t hz ht  (by first | assumption | exact TKc_fr h_p0 hF293 (by decide) (by decide) (by decide) (by omega) | omega) (by first | assumption | exact TKc_fr h_p0 hF293 (by decide) (by decide) (by decide) (by omega) | omega) (by first | assumption | exact TKc_fr h_p0 hF293 (by decide) (by decide) (by decide) (by omega) | omega)) ?_
          rintro _ _ ⟨rfl, h320⟩
          refine ⟨rfl, ?_⟩
          rcases h320 with ⟨v_h320, rfl, h320r, h320⟩
          refine go_ifq PM31 (k := 1) (p1 := 70) (p2 := 46) (L' := [some (.inr (.inr (some 35))), some (.inl p1), some (.inl l9_2), some (.inl l9_3)]) (st' := []) (w' := (SH, dt291)) rfl (c_ne (a := v_h320) (b := 1004) (by first | exact bnd h320r (by decide) (by decide) | exact ⟨by omega, by omega⟩) ⟨by decide, by decide⟩) (fun c322 => ?_) (fun c322 => ?_)
          · skip
            refine go_ifq PM31 (k := 1) (p1 := 80) (p2 := 74) (L' := [some (.inr (.inr (some 35))), some (.inl p1), some (.inl l9_2), some (.inl l9_3)]) (st' := []) (w' := (SH, dt291)) rfl (z_eq (a := l9_2) (by first | exact bnd i294 (by decide) (by decide) | exact ⟨by omega, by omega⟩)) (fun c323 => ?_) (fun c323 => ?_)
            · skip
              refine go_toq PM31 (k := 7) (pc' := 89) (L' := [some (.inr (.inr (some 35))), some (.inl p1), some (.inl 1), some (.inl l9_3)]) (st' := [.inl ((dt291 35 8) + 1), .inr (.inr (some 35))]) (w' := (SH, dt291)) rfl ?_
              have hI324 : InvC (u2 dt291 35 8 ((dt291 35 8) + 1)) := InvC_u2 hI292 (lo := -2147483648) (hi := 2147483647) rfl rfl rfl (by omega) (by omega)
              have hF325 : Fr [35, 42] dt (u2 dt291 35 8 ((dt291 35 8) + 1)) := Fr_u2 hF293 (by decide)
              have w326 : (u2 dt291 35 8 ((dt291 35 8) + 1)) 35 1 = dt291 35 1 := rfl
              have w327 : (u2 dt291 35 8 ((dt291 35 8) + 1)) 35 2 = dt291 35 2 := rfl
              have w328 : (u2 dt291 35 8 ((dt291 35 8) + 1)) 35 3 = dt291 35 3 := rfl
              have w329 : (u2 dt291 35 8 ((dt291 35 8) + 1)) 35 7 = dt291 35 7 := rfl
              have w330 : (u2 dt291 35 8 ((dt291 35 8) + 1)) 35 8 = (dt291 35 8) + 1 := rfl
              have lv332 := KLIVE hz (D := dt291) (by omega) (by omega) (by omega)
              have X331 : PX S t (gB_ K V j) (fun i => gB (gC K V j i) (gL K (gC K V j) 600)) dt (u2 dt291 35 8 ((dt291 35 8) + 1)) := PX_st qX (SPX_inc hz (by omega) (by omega) (by omega) (by omega) (by omega)) (fun hl => by first | (show (gL K (gC K V j) 600) (dt291 35 8).toNat = (fun i => gB (gC K V j i) (gL K (gC K V j) 600)) ((dt291 35 8).toNat + 1); rw [gL_u (gC_M hz _) (by omega) (by omega), if_pos (by omega)]) | (exfalso; omega))
              refine go_smpq PM31 (L' := [some (.inr (.inr (some 35))), some (.inl p1), some (.inl 1), some (.inl l9_3)]) (st' := []) (w' := (SH, (u2 dt291 35 8 ((dt291 35 8) + 1)))) rfl rfl (s_pf rfl rfl rfl rfl ⟨by omega, by omega⟩) ?_
              refine go_toq PM31 (k := 2) (pc' := 94) (L' := [some (.inr (.inr (some 35))), some (.inl p1), some (.inl 1), some (.inl l9_3)]) (st' := [.inl p1, .inr (.inr (some 35))]) (w' := (SH, (u2 dt291 35 8 ((dt291 35 8) + 1)))) rfl ?_
              refine go_callq PM31 PM32 (Q' := _) rfl rfl rfl rfl (IH_X1_single L xs sio (d + 0) (u2 dt291 35 8 ((dt291 35 8) + 1)) hI324 K V S t hz ht p1 (by first | exact h_p1 | exact bnd h_p1 (by decide) (by decide) | exact ⟨by omega, by omega⟩) (by first | assumption | exact TKc_fr h_p0 hF325 (by decide) (by decide) (by decide) (by omega) | omega) (by first | assumption | exact TKc_fr h_p0 hF325 (by decide) (by decide) (by decide) (by omega) | omega) (by first | assumption | exact TKc_fr h_p0 hF325 (by decide) (by decide) (by decide) (by omega) | omega) (by first | assumption | exact TKc_fr h_p0 hF325 (by decide) (by decide) (by decide) (by omega) | omega) (by first | assumption | exact TKc_fr h_p0 hF325 (by decide) (by decide) (by decide) (by omega) | omega)) ?_
              rintro _ _ ⟨dt334, rfl, hI335, hF336, h333⟩
              refine ⟨rfl, ?_⟩
              have hF337 : Fr [35, 42] dt dt334 := Fr_tr hF325 hF336 (by decide)
              rcases h333 with ⟨rfl, h333⟩
              obtain ⟨h333_0, h333_1, h333_2, h333_3, h333_4, h333_5⟩ := h333
              have X338 : PX S t (gB_ K V j) (gL K (gC K V j) 600) dt dt334 := PX_st X331 h333_0 (fun hl => by first | exact rfl | (exfalso; omega))
              refine go_toq PM31 (k := 2) (pc' := 9) (L' := [some (.inr (.inr (some 35))), some (.inl p1), some (.inl 1), some (.inl (l9_3 + 1))]) (st' := []) (w' := (SH, dt334)) rfl ?_
              exact GO.le (ih_loop305 1 (l9_3 + 1) dt334 hI335 hF337 (by first | omega | exact X338) (by first | omega | exact X338) (by exact X338) (by first | omega | exact X338) (by first | omega | exact X338) (by first | omega | exact X338) (by first | omega | exact X338) (by first | omega | exact X338) (by first | omega | exact X338) (by first | omega | exact X338) (by first | omega | exact X338) (by omega)) ⟨.inl rfl, .inl rfl, .inl rfl, .inl rfl, trivial⟩
            · skip
              refine go_toq PM31 (k := 2) (pc' := 77) (L' := [some (.inr (.inr (some 35))), some (.inl p1), some (.inl l9_2), some (.inl l9_3)]) (st' := [.inl (-10), .inr (.inr (some 35))]) (w' := (SH, dt291)) rfl ?_
              refine go_callq PM31 PM30 (Q' := _) rfl rfl rfl rfl (sp_X1_emit_f L xs sio (d + 3) dt291 hI292  (-10) ⟨by decide, by decide⟩ ) ?_
              rintro _ _ ⟨dt340, rfl, hI341, hF342, h339⟩
              refine ⟨rfl, ?_⟩
              have hF343 : Fr [35, 42] dt dt340 := Fr_tr hF293 hF342 (by decide)
              rcases h339 with ⟨rfl, h339⟩
              obtain ⟨h339_0, h339_1, h339_2, h339_3, h339_4⟩ := h339
              have X344 : PX S t (gB_ K V j) (gL K (gC K V j) 600) dt dt340 := PX_sm qX (by omega) (by omega) (by omega)
              have ek345 : (dt340 35 8).toNat = (dt291 35 8).toNat := by omega
              have kk346 : K (dt340 35 8).toNat = K (dt291 35 8).toNat := congrArg K ek345
              have kk347 : V (dt340 35 8).toNat = V (dt291 35 8).toNat := congrArg V ek345
              refine go_toq PM31 (k := 7) (pc' := 89) (L' := [some (.inr (.inr (some 35))), some (.inl p1), some (.inl 1), some (.inl l9_3)]) (st' := [.inl ((dt340 35 8) + 1), .inr (.inr (some 35))]) (w' := (SH, dt340)) rfl ?_
              have hI348 : InvC (u2 dt340 35 8 ((dt340 35 8) + 1)) := InvC_u2 hI341 (lo := -2147483648) (hi := 2147483647) rfl rfl rfl (by omega) (by omega)
              have hF349 : Fr [35, 42] dt (u2 dt340 35 8 ((dt340 35 8) + 1)) := Fr_u2 hF343 (by decide)
              have w350 : (u2 dt340 35 8 ((dt340 35 8) + 1)) 35 1 = dt340 35 1 := rfl
              have w351 : (u2 dt340 35 8 ((dt340 35 8) + 1)) 35 2 = dt340 35 2 := rfl
              have w352 : (u2 dt340 35 8 ((dt340 35 8) + 1)) 35 3 = dt340 35 3 := rfl
              have w353 : (u2 dt340 35 8 ((dt340 35 8) + 1)) 35 7 = dt340 35 7 := rfl
              have w354 : (u2 dt340 35 8 ((dt340 35 8) + 1)) 35 8 = (dt340 35 8) + 1 := rfl
              have lv356 := KLIVE hz (D := dt340) (by omega) (by omega) (by omega)
              have X355 : PX S t (gB_ K V j) (fun i => gB (gC K V j i) (gL K (gC K V j) 600)) dt (u2 dt340 35 8 ((dt340 35 8) + 1)) := PX_st X344 (SPX_inc hz (by omega) (by omega) (by omega) (by omega) (by omega)) (fun hl => by first | (show (gL K (gC K V j) 600) (dt340 35 8).toNat = (fun i => gB (gC K V j i) (gL K (gC K V j) 600)) ((dt340 35 8).toNat + 1); rw [gL_u (gC_M hz _) (by omega) (by omega), if_pos (by omega)]) | (exfalso; omega))
              refine go_smpq PM31 (L' := [some (.inr (.inr (some 35))), some (.inl p1), some (.inl 1), some (.inl l9_3)]) (st' := []) (w' := (SH, (u2 dt340 35 8 ((dt340 35 8) + 1)))) rfl rfl (s_pf rfl rfl rfl rfl ⟨by omega, by omega⟩) ?_
              refine go_toq PM31 (k := 2) (pc' := 94) (L' := [some (.inr (.inr (some 35))), some (.inl p1), some (.inl 1), some (.inl l9_3)]) (st' := [.inl p1, .inr (.inr (some 35))]) (w' := (SH, (u2 dt340 35 8 ((dt340 35 8) + 1)))) rfl ?_
              refine go_callq PM31 PM32 (Q' := _) rfl rfl rfl rfl (IH_X1_single L xs sio (d + 0) (u2 dt340 35 8 ((dt340 35 8) + 1)) hI348 K V S t hz ht p1 (by first | exact h_p1 | exact bnd h_p1 (by decide) (by decide) | exact ⟨by omega, by omega⟩) (by first | assumption | exact TKc_fr h_p0 hF349 (by decide) (by decide) (by decide) (by omega) | omega) (by first | assumption | exact TKc_fr h_p0 hF349 (by decide) (by decide) (by decide) (by omega) | omega) (by first | assumption | exact TKc_fr h_p0 hF349 (by decide) (by decide) (by decide) (by omega) | omega) (by first | assumption | exact TKc_fr h_p0 hF349 (by decide) (by decide) (by decide) (by omega) | omega) (by first | assumption | exact TKc_fr h_p0 hF349 (by decide) (by decide) (by decide) (by omega) | omega)) ?_
              rintro _ _ ⟨dt358, rfl, hI359, hF360, h357⟩
              refine ⟨rfl, ?_⟩
              have hF361 : Fr [35, 42] dt dt358 := Fr_tr hF349 hF360 (by decide)
              rcases h357 with ⟨rfl, h357⟩
              obtain ⟨h357_0, h357_1, h357_2, h357_3, h357_4, h357_5⟩ := h357
              have X362 : PX S t (gB_ K V j) (gL K (gC K V j) 600) dt dt358 := PX_st X355 h357_0 (fun hl => by first | exact rfl | (exfalso; omega))
              refine go_toq PM31 (k := 2) (pc' := 9) (L' := [some (.inr (.inr (some 35))), some (.inl p1), some (.inl 1), some (.inl (l9_3 + 1))]) (st' := []) (w' := (SH, dt358)) rfl ?_
              exact GO.le (ih_loop305 1 (l9_3 + 1) dt358 hI359 hF361 (by first | omega | exact X362) (by first | omega | exact X362) (by exact X362) (by first | omega | exact X362) (by first | omega | exact X362) (by first | omega | exact X362) (by first | omega | exact X362) (by first | omega | exact X362) (by first | omega | exact X362) (by first | omega | exact X362) (by first | omega | exact X362) (by omega)) ⟨.inl rfl, .inl rfl, .inl rfl, .inl rfl, trivial⟩
          · skip
            refine go_toq PM31 (k := 5) (pc' := 53) (L' := [some (.inr (.inr (some 35))), some (.inl p1), some (.inl l9_2), some (.inl l9_3)]) (st' := [.inl ((dt291 35 8) + 1), .inr (.inr (some 35))]) (w' := (SH, dt291)) rfl ?_
            have hI363 : InvC (u2 dt291 35 8 ((dt291 35 8) + 1)) := InvC_u2 hI292 (lo := -2147483648) (hi := 2147483647) rfl rfl rfl (by omega) (by omega)
            have hF364 : Fr [35, 42] dt (u2 dt291 35 8 ((dt291 35 8) + 1)) := Fr_u2 hF293 (by decide)
            have w365 : (u2 dt291 35 8 ((dt291 35 8) + 1)) 35 1 = dt291 35 1 := rfl
            have w366 : (u2 dt291 35 8 ((dt291 35 8) + 1)) 35 2 = dt291 35 2 := rfl
            have w367 : (u2 dt291 35 8 ((dt291 35 8) + 1)) 35 3 = dt291 35 3 := rfl
            have w368 : (u2 dt291 35 8 ((dt291 35 8) + 1)) 35 7 = dt291 35 7 := rfl
            have w369 : (u2 dt291 35 8 ((dt291 35 8) + 1)) 35 8 = (dt291 35 8) + 1 := rfl
            have lv371 := KLIVE hz (D := dt291) (by omega) (by omega) (by omega)
            have X370 : PX S t (gB_ K V j) (fun i => gB (gC K V j i) (gL K (gC K V j) 600)) dt (u2 dt291 35 8 ((dt291 35 8) + 1)) := PX_st qX (SPX_inc hz (by omega) (by omega) (by omega) (by omega) (by omega)) (fun hl => by first | (show (gL K (gC K V j) 600) (dt291 35 8).toNat = (fun i => gB (gC K V j i) (gL K (gC K V j) 600)) ((dt291 35 8).toNat + 1); rw [gL_u (gC_M hz _) (by omega) (by omega), if_pos (by omega)]) | (exfalso; omega))
            refine go_smpq PM31 (L' := [some (.inr (.inr (some 35))), some (.inl p1), some (.inl l9_2), some (.inl l9_3)]) (st' := []) (w' := (SH, (u2 dt291 35 8 ((dt291 35 8) + 1)))) rfl rfl (s_pf rfl rfl rfl rfl ⟨by omega, by omega⟩) ?_
            refine go_toq PM31 (k := 2) (pc' := 58) (L' := [some (.inr (.inr (some 35))), some (.inl p1), some (.inl l9_2), some (.inl l9_3)]) (st' := [.inl p1, .inr (.inr (some 35))]) (w' := (SH, (u2 dt291 35 8 ((dt291 35 8) + 1)))) rfl ?_
            refine go_callq PM31 PM32 (Q' := _) rfl rfl rfl rfl (IH_X1_single L xs sio (d + 0) (u2 dt291 35 8 ((dt291 35 8) + 1)) hI363 K V S t hz ht p1 (by first | exact h_p1 | exact bnd h_p1 (by decide) (by decide) | exact ⟨by omega, by omega⟩) (by first | assumption | exact TKc_fr h_p0 hF364 (by decide) (by decide) (by decide) (by omega) | omega) (by first | assumption | exact TKc_fr h_p0 hF364 (by decide) (by decide) (by decide) (by omega) | omega) (by first | assumption | exact TKc_fr h_p0 hF364 (by decide) (by decide) (by decide) (by omega) | omega) (by first | assumption | exact TKc_fr h_p0 hF364 (by decide) (by decide) (by decide) (by omega) | omega) (by first | assumption | exact TKc_fr h_p0 hF364 (by decide) (by decide) (by decide) (by omega) | omega)) ?_
            rintro _ _ ⟨dt373, rfl, hI374, hF375, h372⟩
            refine ⟨rfl, ?_⟩
            have hF376 : Fr [35, 42] dt dt373 := Fr_tr hF364 hF375 (by decide)
            rcases h372 with ⟨rfl, h372⟩
            obtain ⟨h372_0, h372_1, h372_2, h372_3, h372_4, h372_5⟩ := h372
            have X377 : PX S t (gB_ K V j) (gL K (gC K V j) 600) dt dt373 := PX_st X370 h372_0 (fun hl => by first | exact rfl | (exfalso; omega))
            refine go_toq PM31 (k := 2) (pc' := 64) (L' := [some (.inr (.inr (some 35))), some (.inl p1), some (.inl l9_2), some (.inl l9_3)]) (st' := [.inl (-9), .inr (.inr (some 35))]) (w' := (SH, dt373)) rfl ?_
            refine go_callq PM31 PM30 (Q' := _) rfl rfl rfl rfl (sp_X1_emit_f L xs sio (d + 3) dt373 hI374  (-9) ⟨by decide, by decide⟩ ) ?_
            rintro _ _ ⟨dt379, rfl, hI380, hF381, h378⟩
            refine ⟨rfl, ?_⟩
            have hF382 : Fr [35, 42] dt dt379 := Fr_tr hF376 hF381 (by decide)
            rcases h378 with ⟨rfl, h378⟩
            obtain ⟨h378_0, h378_1, h378_2, h378_3, h378_4⟩ := h378
            have X383 : PX S t (gB_ K V j) (gL K (gC K V j) 600) dt dt379 := PX_sm X377 (by omega) (by omega) (by omega)
            have ek384 : (dt379 35 8).toNat = (dt373 35 8).toNat := by omega
            have kk385 : K (dt379 35 8).toNat = K (dt373 35 8).toNat := congrArg K ek384
            have kk386 : V (dt379 35 8).toNat = V (dt373 35 8).toNat := congrArg V ek384
            refine go_toq PM31 (k := 3) (pc' := 9) (L' := [some (.inr (.inr (some 35))), some (.inl p1), some (.inl l9_2), some (.inl (l9_3 + 1))]) (st' := []) (w' := (SH, dt379)) rfl ?_
            exact GO.le (ih_loop305 l9_2 (l9_3 + 1) dt379 hI380 hF382 (by first | omega | exact X383) (by first | omega | exact X383) (by exact X383) (by first | omega | exact X383) (by first | omega | exact X383) (by first | omega | exact X383) (by first | omega | exact X383) (by first | omega | exact X383) (by first | omega | exact X383) (by first | omega | exact X383) (by first | omega | exact X383) (by omega)) ⟨.inl rfl, .inl rfl, .inl rfl, .inl rfl, trivial⟩
        · skip
          refine go_toq PM31 (k := 1) (pc' := 27) (L' := [some (.inr (.inr (some 35))), some (.inl p1), some (.inl l9_2), some (.inl l9_3)]) (st' := [.inr (.inr (some 35))]) (w' := (SH, dt291)) rfl ?_
          refine go_callq PM31 PM20 (Q' := _) rfl rfl rfl rfl (sp_X1_token_f L xs sio (d + 3) dt291 hI292 K V S t hz ht  (by first | assumption | exact TKc_fr h_p0 hF293 (by decide) (by decide) (by decide) (by omega) | omega) (by first | assumption | exact TKc_fr h_p0 hF293 (by decide) (by decide) (by decide) (by omega) | omega) (by first | assumption | exact TKc_fr h_p0 hF293 (by decide) (by decide) (by decide) (by omega) | omega)) ?_
          rintro _ _ ⟨rfl, h387⟩
          refine ⟨rfl, ?_⟩
          rcases h387 with ⟨v_h387, rfl, h387r, h387⟩
          refine go_ifq PM31 (k := 1) (p1 := 103) (p2 := 36) (L' := [some (.inr (.inr (some 35))), some (.inl p1), some (.inl l9_2), some (.inl l9_3)]) (st' := []) (w' := (SH, dt291)) rfl (c_ne (a := v_h387) (b := 1003) (by first | exact bnd h387r (by decide) (by decide) | exact ⟨by omega, by omega⟩) ⟨by decide, by decide⟩) (fun c389 => ?_) (fun c389 => ?_)
          · skip
            refine go_ifq PM31 (k := 1) (p1 := 113) (p2 := 107) (L' := [some (.inr (.inr (some 35))), some (.inl p1), some (.inl l9_2), some (.inl l9_3)]) (st' := []) (w' := (SH, dt291)) rfl (z_eq (a := l9_2) (by first | exact bnd i294 (by decide) (by decide) | exact ⟨by omega, by omega⟩)) (fun c390 => ?_) (fun c390 => ?_)
            · skip
              refine go_retq PM31 (k := 0) (r := none) (w1 := (SH, dt291)) rfl ?_
              exact ⟨dt291, rfl, hI292, hF293, ⟨rfl, ⟨by exact PX_e (PX_g qX (fun _ => by rw [gL_u (gC_M hz _) (by omega) (by omega), if_neg (by omega)]; rfl)) (by omega), by first | exact True.intro | assumption | rfl | omega | trivial, by first | exact True.intro | assumption | rfl | omega | trivial, by first | exact True.intro | assumption | rfl | omega | trivial, by first | exact True.intro | assumption | rfl | omega | trivial, by first | exact True.intro | assumption | rfl | omega | trivial⟩⟩⟩
            · skip
              refine go_toq PM31 (k := 2) (pc' := 110) (L' := [some (.inr (.inr (some 35))), some (.inl p1), some (.inl l9_2), some (.inl l9_3)]) (st' := [.inl (-10), .inr (.inr (some 35))]) (w' := (SH, dt291)) rfl ?_
              refine go_callq PM31 PM30 (Q' := _) rfl rfl rfl rfl (sp_X1_emit_f L xs sio (d + 3) dt291 hI292  (-10) ⟨by decide, by decide⟩ ) ?_
              rintro _ _ ⟨dt392, rfl, hI393, hF394, h391⟩
              refine ⟨rfl, ?_⟩
              have hF395 : Fr [35, 42] dt dt392 := Fr_tr hF293 hF394 (by decide)
              rcases h391 with ⟨rfl, h391⟩
              obtain ⟨h391_0, h391_1, h391_2, h391_3, h391_4⟩ := h391
              have X396 : PX S t (gB_ K V j) (gL K (gC K V j) 600) dt dt392 := PX_sm qX (by omega) (by omega) (by omega)
              have ek397 : (dt392 35 8).toNat = (dt291 35 8).toNat := by omega
              have kk398 : K (dt392 35 8).toNat = K (dt291 35 8).toNat := congrArg K ek397
              have kk399 : V (dt392 35 8).toNat = V (dt291 35 8).toNat := congrArg V ek397
              refine go_retq PM31 (k := 0) (r := none) (w1 := (SH, dt392)) rfl ?_
              exact ⟨dt392, rfl, hI393, hF395, ⟨rfl, ⟨by exact PX_e (PX_g X396 (fun _ => by rw [gL_u (gC_M hz _) (by omega) (by omega), if_neg (by omega)]; rfl)) (by omega), by first | exact True.intro | assumption | rfl | omega | trivial, by first | exact True.intro | assumption | rfl | omega | trivial, by first | exact True.intro | assumption | rfl | omega | trivial, by first | exact True.intro | assumption | rfl | omega | trivial, by first | exact True.intro | assumption | rfl | omega | trivial⟩⟩⟩
          · skip
            refine go_toq PM31 (k := 1) (pc' := 37) (L' := [some (.inr (.inr (some 35))), some (.inl p1), some (.inl l9_2), some (.inl l9_3)]) (st' := [.inr (.inr (some 35))]) (w' := (SH, dt291)) rfl ?_
            refine go_callq PM31 PM20 (Q' := _) rfl rfl rfl rfl (sp_X1_token_f L xs sio (d + 3) dt291 hI292 K V S t hz ht  (by first | assumption | exact TKc_fr h_p0 hF293 (by decide) (by decide) (by decide) (by omega) | omega) (by first | assumption | exact TKc_fr h_p0 hF293 (by decide) (by decide) (by decide) (by omega) | omega) (by first | assumption | exact TKc_fr h_p0 hF293 (by decide) (by decide) (by decide) (by omega) | omega)) ?_
            rintro _ _ ⟨rfl, h400⟩
            refine ⟨rfl, ?_⟩
            rcases h400 with ⟨v_h400, rfl, h400r, h400⟩
            refine go_ifq PM31 (k := 1) (p1 := 70) (p2 := 46) (L' := [some (.inr (.inr (some 35))), some (.inl p1), some (.inl l9_2), some (.inl l9_3)]) (st' := []) (w' := (SH, dt291)) rfl (c_ne (a := v_h400) (b := 1004) (by first | exact bnd h400r (by decide) (by decide) | exact ⟨by omega, by omega⟩) ⟨by decide, by decide⟩) (fun c402 => ?_) (fun c402 => ?_)
            · skip
              refine go_ifq PM31 (k := 1) (p1 := 80) (p2 := 74) (L' := [some (.inr (.inr (some 35))), some (.inl p1), some (.inl l9_2), some (.inl l9_3)]) (st' := []) (w' := (SH, dt291)) rfl (z_eq (a := l9_2) (by first | exact bnd i294 (by decide) (by decide) | exact ⟨by omega, by omega⟩)) (fun c403 => ?_) (fun c403 => ?_)
              · skip
                refine go_toq PM31 (k := 7) (pc' := 89) (L' := [some (.inr (.inr (some 35))), some (.inl p1), some (.inl 1), some (.inl l9_3)]) (st' := [.inl ((dt291 35 8) + 1), .inr (.inr (some 35))]) (w' := (SH, dt291)) rfl ?_
                have hI404 : InvC (u2 dt291 35 8 ((dt291 35 8) + 1)) := InvC_u2 hI292 (lo := -2147483648) (hi := 2147483647) rfl rfl rfl (by omega) (by omega)
                have hF405 : Fr [35, 42] dt (u2 dt291 35 8 ((dt291 35 8) + 1)) := Fr_u2 hF293 (by decide)
                have w406 : (u2 dt291 35 8 ((dt291 35 8) + 1)) 35 1 = dt291 35 1 := rfl
                have w407 : (u2 dt291 35 8 ((dt291 35 8) + 1)) 35 2 = dt291 35 2 := rfl
                have w408 : (u2 dt291 35 8 ((dt291 35 8) + 1)) 35 3 = dt291 35 3 := rfl
                have w409 : (u2 dt291 35 8 ((dt291 35 8) + 1)) 35 7 = dt291 35 7 := rfl
                have w410 : (u2 dt291 35 8 ((dt291 35 8) + 1)) 35 8 = (dt291 35 8) + 1 := rfl
                have lv412 := KLIVE hz (D := dt291) (by omega) (by omega) (by omega)
                have X411 : PX S t (gB_ K V j) (fun i => gB (gC K V j i) (gL K (gC K V j) 600)) dt (u2 dt291 35 8 ((dt291 35 8) + 1)) := PX_st qX (SPX_inc hz (by omega) (by omega) (by omega) (by omega) (by omega)) (fun hl => by first | (show (gL K (gC K V j) 600) (dt291 35 8).toNat = (fun i => gB (gC K V j i) (gL K (gC K V j) 600)) ((dt291 35 8).toNat + 1); rw [gL_u (gC_M hz _) (by omega) (by omega), if_pos (by omega)]) | (exfalso; omega))
                refine go_smpq PM31 (L' := [some (.inr (.inr (some 35))), some (.inl p1), some (.inl 1), some (.inl l9_3)]) (st' := []) (w' := (SH, (u2 dt291 35 8 ((dt291 35 8) + 1)))) rfl rfl (s_pf rfl rfl rfl rfl ⟨by omega, by omega⟩) ?_
                refine go_toq PM31 (k := 2) (pc' := 94) (L' := [some (.inr (.inr (some 35))), some (.inl p1), some (.inl 1), some (.inl l9_3)]) (st' := [.inl p1, .inr (.inr (some 35))]) (w' := (SH, (u2 dt291 35 8 ((dt291 35 8) + 1)))) rfl ?_
                refine go_callq PM31 PM32 (Q' := _) rfl rfl rfl rfl (IH_X1_single L xs sio (d + 0) (u2 dt291 35 8 ((dt291 35 8) + 1)) hI404 K V S t hz ht p1 (by first | exact h_p1 | exact bnd h_p1 (by decide) (by decide) | exact ⟨by omega, by omega⟩) (by first | assumption | exact TKc_fr h_p0 hF405 (by decide) (by decide) (by decide) (by omega) | omega) (by first | assumption | exact TKc_fr h_p0 hF405 (by decide) (by decide) (by decide) (by omega) | omega) (by first | assumption | exact TKc_fr h_p0 hF405 (by decide) (by decide) (by decide) (by omega) | omega) (by first | assumption | exact TKc_fr h_p0 hF405 (by decide) (by decide) (by decide) (by omega) | omega) (by first | assumption | exact TKc_fr h_p0 hF405 (by decide) (by decide) (by decide) (by omega) | omega)) ?_
                rintro _ _ ⟨dt414, rfl, hI415, hF416, h413⟩
                refine ⟨rfl, ?_⟩
                have hF417 : Fr [35, 42] dt dt414 := Fr_tr hF405 hF416 (by decide)
                rcases h413 with ⟨rfl, h413⟩
                obtain ⟨h413_0, h413_1, h413_2, h413_3, h413_4, h413_5⟩ := h413
                have X418 : PX S t (gB_ K V j) (gL K (gC K V j) 600) dt dt414 := PX_st X411 h413_0 (fun hl => by first | exact rfl | (exfalso; omega))
                refine go_toq PM31 (k := 2) (pc' := 9) (L' := [some (.inr (.inr (some 35))), some (.inl p1), some (.inl 1), some (.inl (l9_3 + 1))]) (st' := []) (w' := (SH, dt414)) rfl ?_
                exact GO.le (ih_loop305 1 (l9_3 + 1) dt414 hI415 hF417 (by first | omega | exact X418) (by first | omega | exact X418) (by exact X418) (by first | omega | exact X418) (by first | omega | exact X418) (by first | omega | exact X418) (by first | omega | exact X418) (by first | omega | exact X418) (by first | omega | exact X418) (by first | omega | exact X418) (by first | omega | exact X418) (by omega)) ⟨.inl rfl, .inl rfl, .inl rfl, .inl rfl, trivial⟩
              · skip
                refine go_toq PM31 (k := 2) (pc' := 77) (L' := [some (.inr (.inr (some 35))), some (.inl p1), some (.inl l9_2), some (.inl l9_3)]) (st' := [.inl (-10), .inr (.inr (some 35))]) (w' := (SH, dt291)) rfl ?_
                refine go_callq PM31 PM30 (Q' := _) rfl rfl rfl rfl (sp_X1_emit_f L xs sio (d + 3) dt291 hI292  (-10) ⟨by decide, by decide⟩ ) ?_
                rintro _ _ ⟨dt420, rfl, hI421, hF422, h419⟩
                refine ⟨rfl, ?_⟩
                have hF423 : Fr [35, 42] dt dt420 := Fr_tr hF293 hF422 (by decide)
                rcases h419 with ⟨rfl, h419⟩
                obtain ⟨h419_0, h419_1, h419_2, h419_3, h419_4⟩ := h419
                have X424 : PX S t (gB_ K V j) (gL K (gC K V j) 600) dt dt420 := PX_sm qX (by omega) (by omega) (by omega)
                have ek425 : (dt420 35 8).toNat = (dt291 35 8).toNat := by omega
                have kk426 : K (dt420 35 8).toNat = K (dt291 35 8).toNat := congrArg K ek425
                have kk427 : V (dt420 35 8).toNat = V (dt291 35 8).toNat := congrArg V ek425
                refine go_toq PM31 (k := 7) (pc' := 89) (L' := [some (.inr (.inr (some 35))), some (.inl p1), some (.inl 1), some (.inl l9_3)]) (st' := [.inl ((dt420 35 8) + 1), .inr (.inr (some 35))]) (w' := (SH, dt420)) rfl ?_
                have hI428 : InvC (u2 dt420 35 8 ((dt420 35 8) + 1)) := InvC_u2 hI421 (lo := -2147483648) (hi := 2147483647) rfl rfl rfl (by omega) (by omega)
                have hF429 : Fr [35, 42] dt (u2 dt420 35 8 ((dt420 35 8) + 1)) := Fr_u2 hF423 (by decide)
                have w430 : (u2 dt420 35 8 ((dt420 35 8) + 1)) 35 1 = dt420 35 1 := rfl
                have w431 : (u2 dt420 35 8 ((dt420 35 8) + 1)) 35 2 = dt420 35 2 := rfl
                have w432 : (u2 dt420 35 8 ((dt420 35 8) + 1)) 35 3 = dt420 35 3 := rfl
                have w433 : (u2 dt420 35 8 ((dt420 35 8) + 1)) 35 7 = dt420 35 7 := rfl
                have w434 : (u2 dt420 35 8 ((dt420 35 8) + 1)) 35 8 = (dt420 35 8) + 1 := rfl
                have lv436 := KLIVE hz (D := dt420) (by omega) (by omega) (by omega)
                have X435 : PX S t (gB_ K V j) (fun i => gB (gC K V j i) (gL K (gC K V j) 600)) dt (u2 dt420 35 8 ((dt420 35 8) + 1)) := PX_st X424 (SPX_inc hz (by omega) (by omega) (by omega) (by omega) (by omega)) (fun hl => by first | (show (gL K (gC K V j) 600) (dt420 35 8).toNat = (fun i => gB (gC K V j i) (gL K (gC K V j) 600)) ((dt420 35 8).toNat + 1); rw [gL_u (gC_M hz _) (by omega) (by omega), if_pos (by omega)]) | (exfalso; omega))
                refine go_smpq PM31 (L' := [some (.inr (.inr (some 35))), some (.inl p1), some (.inl 1), some (.inl l9_3)]) (st' := []) (w' := (SH, (u2 dt420 35 8 ((dt420 35 8) + 1)))) rfl rfl (s_pf rfl rfl rfl rfl ⟨by omega, by omega⟩) ?_
                refine go_toq PM31 (k := 2) (pc' := 94) (L' := [some (.inr (.inr (some 35))), some (.inl p1), some (.inl 1), some (.inl l9_3)]) (st' := [.inl p1, .inr (.inr (some 35))]) (w' := (SH, (u2 dt420 35 8 ((dt420 35 8) + 1)))) rfl ?_
                refine go_callq PM31 PM32 (Q' := _) rfl rfl rfl rfl (IH_X1_single L xs sio (d + 0) (u2 dt420 35 8 ((dt420 35 8) + 1)) hI428 K V S t hz ht p1 (by first | exact h_p1 | exact bnd h_p1 (by decide) (by decide) | exact ⟨by omega, by omega⟩) (by first | assumption | exact TKc_fr h_p0 hF429 (by decide) (by decide) (by decide) (by omega) | omega) (by first | assumption | exact TKc_fr h_p0 hF429 (by decide) (by decide) (by decide) (by omega) | omega) (by first | assumption | exact TKc_fr h_p0 hF429 (by decide) (by decide) (by decide) (by omega) | omega) (by first | assumption | exact TKc_fr h_p0 hF429 (by decide) (by decide) (by decide) (by omega) | omega) (by first | assumption | exact TKc_fr h_p0 hF429 (by decide) (by decide) (by decide) (by omega) | omega)) ?_
                rintro _ _ ⟨dt438, rfl, hI439, hF440, h437⟩
                refine ⟨rfl, ?_⟩
                have hF441 : Fr [35, 42] dt dt438 := Fr_tr hF429 hF440 (by decide)
                rcases h437 with ⟨rfl, h437⟩
                obtain ⟨h437_0, h437_1, h437_2, h437_3, h437_4, h437_5⟩ := h437
                have X442 : PX S t (gB_ K V j) (gL K (gC K V j) 600) dt dt438 := PX_st X435 h437_0 (fun hl => by first | exact rfl | (exfalso; omega))
                refine go_toq PM31 (k := 2) (pc' := 9) (L' := [some (.inr (.inr (some 35))), some (.inl p1), some (.inl 1), some (.inl (l9_3 + 1))]) (st' := []) (w' := (SH, dt438)) rfl ?_
                exact GO.le (ih_loop305 1 (l9_3 + 1) dt438 hI439 hF441 (by first | omega | exact X442) (by first | omega | exact X442) (by exact X442) (by first | omega | exact X442) (by first | omega | exact X442) (by first | omega | exact X442) (by first | omega | exact X442) (by first | omega | exact X442) (by first | omega | exact X442) (by first | omega | exact X442) (by first | omega | exact X442) (by omega)) ⟨.inl rfl, .inl rfl, .inl rfl, .inl rfl, trivial⟩
            · skip
              refine go_toq PM31 (k := 5) (pc' := 53) (L' := [some (.inr (.inr (some 35))), some (.inl p1), some (.inl l9_2), some (.inl l9_3)]) (st' := [.inl ((dt291 35 8) + 1), .inr (.inr (some 35))]) (w' := (SH, dt291)) rfl ?_
              have hI443 : InvC (u2 dt291 35 8 ((dt291 35 8) + 1)) := InvC_u2 hI292 (lo := -2147483648) (hi := 2147483647) rfl rfl rfl (by omega) (by omega)
              have hF444 : Fr [35, 42] dt (u2 dt291 35 8 ((dt291 35 8) + 1)) := Fr_u2 hF293 (by decide)
              have w445 : (u2 dt291 35 8 ((dt291 35 8) + 1)) 35 1 = dt291 35 1 := rfl
              have w446 : (u2 dt291 35 8 ((dt291 35 8) + 1)) 35 2 = dt291 35 2 := rfl
              have w447 : (u2 dt291 35 8 ((dt291 35 8) + 1)) 35 3 = dt291 35 3 := rfl
              have w448 : (u2 dt291 35 8 ((dt291 35 8) + 1)) 35 7 = dt291 35 7 := rfl
              have w449 : (u2 dt291 35 8 ((dt291 35 8) + 1)) 35 8 = (dt291 35 8) + 1 := rfl
              have lv451 := KLIVE hz (D := dt291) (by omega) (by omega) (by omega)
              have X450 : PX S t (gB_ K V j) (fun i => gB (gC K V j i) (gL K (gC K V j) 600)) dt (u2 dt291 35 8 ((dt291 35 8) + 1)) := PX_st qX (SPX_inc hz (by omega) (by omega) (by omega) (by omega) (by omega)) (fun hl => by first | (show (gL K (gC K V j) 600) (dt291 35 8).toNat = (fun i => gB (gC K V j i) (gL K (gC K V j) 600)) ((dt291 35 8).toNat + 1); rw [gL_u (gC_M hz _) (by omega) (by omega), if_pos (by omega)]) | (exfalso; omega))
              refine go_smpq PM31 (L' := [some (.inr (.inr (some 35))), some (.inl p1), some (.inl l9_2), some (.inl l9_3)]) (st' := []) (w' := (SH, (u2 dt291 35 8 ((dt291 35 8) + 1)))) rfl rfl (s_pf rfl rfl rfl rfl ⟨by omega, by omega⟩) ?_
              refine go_toq PM31 (k := 2) (pc' := 58) (L' := [some (.inr (.inr (some 35))), some (.inl p1), some (.inl l9_2), some (.inl l9_3)]) (st' := [.inl p1, .inr (.inr (some 35))]) (w' := (SH, (u2 dt291 35 8 ((dt291 35 8) + 1)))) rfl ?_
              refine go_callq PM31 PM32 (Q' := _) rfl rfl rfl rfl (IH_X1_single L xs sio (d + 0) (u2 dt291 35 8 ((dt291 35 8) + 1)) hI443 K V S t hz ht p1 (by first | exact h_p1 | exact bnd h_p1 (by decide) (by decide) | exact ⟨by omega, by omega⟩) (by first | assumption | exact TKc_fr h_p0 hF444 (by decide) (by decide) (by decide) (by omega) | omega) (by first | assumption | exact TKc_fr h_p0 hF444 (by decide) (by decide) (by decide) (by omega) | omega) (by first | assumption | exact TKc_fr h_p0 hF444 (by decide) (by decide) (by decide) (by omega) | omega) (by first | assumption | exact TKc_fr h_p0 hF444 (by decide) (by decide) (by decide) (by omega) | omega) (by first | assumption | exact TKc_fr h_p0 hF444 (by decide) (by decide) (by decide) (by omega) | omega)) ?_
              rintro _ _ ⟨dt453, rfl, hI454, hF455, h452⟩
              refine ⟨rfl, ?_⟩
              have hF456 : Fr [35, 42] dt dt453 := Fr_tr hF444 hF455 (by decide)
              rcases h452 with ⟨rfl, h452⟩
              obtain ⟨h452_0, h452_1, h452_2, h452_3, h452_4, h452_5⟩ := h452
              have X457 : PX S t (gB_ K V j) (gL K (gC K V j) 600) dt dt453 := PX_st X450 h452_0 (fun hl => by first | exact rfl | (exfalso; omega))
              refine go_toq PM31 (k := 2) (pc' := 64) (L' := [some (.inr (.inr (some 35))), some (.inl p1), some (.inl l9_2), some (.inl l9_3)]) (st' := [.inl (-9), .inr (.inr (some 35))]) (w' := (SH, dt453)) rfl ?_
              refine go_callq PM31 PM30 (Q' := _) rfl rfl rfl rfl (sp_X1_emit_f L xs sio (d + 3) dt453 hI454  (-9) ⟨by decide, by decide⟩ ) ?_
              rintro _ _ ⟨dt459, rfl, hI460, hF461, h458⟩
              refine ⟨rfl, ?_⟩
              have hF462 : Fr [35, 42] dt dt459 := Fr_tr hF456 hF461 (by decide)
              rcases h458 with ⟨rfl, h458⟩
              obtain ⟨h458_0, h458_1, h458_2, h458_3, h458_4⟩ := h458
              have X463 : PX S t (gB_ K V j) (gL K (gC K V j) 600) dt dt459 := PX_sm X457 (by omega) (by omega) (by omega)
              have ek464 : (dt459 35 8).toNat = (dt453 35 8).toNat := by omega
              have kk465 : K (dt459 35 8).toNat = K (dt453 35 8).toNat := congrArg K ek464
              have kk466 : V (dt459 35 8).toNat = V (dt453 35 8).toNat := congrArg V ek464
              refine go_toq PM31 (k := 3) (pc' := 9) (L' := [some (.inr (.inr (some 35))), some (.inl p1), some (.inl l9_2), some (.inl (l9_3 + 1))]) (st' := []) (w' := (SH, dt459)) rfl ?_
              exact GO.le (ih_loop305 l9_2 (l9_3 + 1) dt459 hI460 hF462 (by first | omega | exact X463) (by first | omega | exact X463) (by exact X463) (by first | omega | exact X463) (by first | omega | exact X463) (by first | omega | exact X463) (by first | omega | exact X463) (by first | omega | exact X463) (by first | omega | exact X463) (by first | omega | exact X463) (by first | omega | exact X463) (by omega)) ⟨.inl rfl, .inl rfl, .inl rfl, .inl rfl, trivial⟩
  exact GO.le (loop305 _ 0 0 dt2 hI3 hF5 (by first | omega | exact X6) (by first | omega | exact X6) (by exact X6) (by first | omega | exact X6) (by first | omega | exact X6) (by first | omega | exact X6) (by first | omega | exact X6) (by first | omega | exact X6) (by first | omega | exact X6) (by first | omega | exact X6) (by first | omega | exact X6) (Nat.lt_succ_self _)) ⟨.inl rfl, .inl rfl, .inl rfl, .inl rfl, trivial⟩
theorem lv_X1_single_f (L : Nat) (xs : Nat → Int32) (sio : Option Nat) (d : Nat) (dt : Nat → Nat → Int) (hI : InvC dt) (K V S : Nat → Int) (t : Nat) (hz : KZ K t) (ht : t ≤ 500) (j : Nat) (IH_X1_single : ∀ (L : Nat) (xs : Nat → Int32) (sio : Option Nat) (d : Nat) (dt : Nat → Nat → Int) (hI : InvC dt) (K V S : Nat → Int) (t : Nat) (hz : KZ K t) (ht : t ≤ 500) (p1 : Int) (h_p1 : 0 ≤ p1 ∧ p1 ≤ 8) (h_p0 : TKc K V S t dt) (h_p1 : 0 ≤ dt 35 8 ∧ dt 35 8 ≤ (t : Int)) (h_p2 : ¬ dt 35 2 = 0 → dt 35 8 = (t : Int)) (h_p3 : p1 + ((j : Nat) : Int) = 8) (h_p4 : 2 * j ≤ d), GO (am_XX L xs sio) (d + 3) 32 0 [some (.inr (.inr (some 35))), some (.inl p1), none, none] [] (SH, dt) (fun r w2 => ∃ dt2 : Nat → Nat → Int, w2 = (SH, dt2) ∧ InvC dt2 ∧ Fr [35, 42] dt dt2 ∧ ((r = none ∧ (SPX S t dt dt2 (gC K V j)) ∧ (0 ≤ dt2 35 8 ∧ dt2 35 8 ≤ (t : Int)) ∧ (¬ dt2 35 2 = 0 → dt2 35 8 = (t : Int)) ∧ (dt 35 8 ≤ dt2 35 8) ∧ (dt2 35 1 = dt 35 1) ∧ (dt2 35 7 = dt 35 7))))) (IH_X1_condition : ∀ (L : Nat) (xs : Nat → Int32) (sio : Option Nat) (d : Nat) (dt : Nat → Nat → Int) (hI : InvC dt) (K V S : Nat → Int) (t : Nat) (hz : KZ K t) (ht : t ≤ 500) (p1 : Int) (h_p1 : 0 ≤ p1 ∧ p1 ≤ 8) (h_p0 : TKc K V S t dt) (h_p1 : 0 ≤ dt 35 8 ∧ dt 35 8 ≤ (t : Int)) (h_p2 : ¬ dt 35 2 = 0 → dt 35 8 = (t : Int)) (h_p3 : p1 + ((j : Nat) : Int) = 8) (h_p4 : 2 * j ≤ d), GO (am_XX L xs sio) (d + 4) 31 0 [some (.inr (.inr (some 35))), some (.inl p1), none, none] [] (SH, dt) (fun r w2 => ∃ dt2 : Nat → Nat → Int, w2 = (SH, dt2) ∧ InvC dt2 ∧ Fr [35, 42] dt dt2 ∧ ((r = none ∧ (SPX S t dt dt2 (gB_ K V j)) ∧ (0 ≤ dt2 35 8 ∧ dt2 35 8 ≤ (t : Int)) ∧ (¬ dt2 35 2 = 0 → dt2 35 8 = (t : Int)) ∧ (dt 35 8 ≤ dt2 35 8) ∧ (dt2 35 1 = dt 35 1) ∧ (dt2 35 7 = dt 35 7)))))  (p1 : Int) (h_p1 : 0 ≤ p1 ∧ p1 ≤ 8) (h_p0 : TKc K V S t dt) (h_p1 : 0 ≤ dt 35 8 ∧ dt 35 8 ≤ (t : Int)) (h_p2 : ¬ dt 35 2 = 0 → dt 35 8 = (t : Int)) (h_p3 : p1 + (((j + 1) : Nat) : Int) = 8) (h_p4 : 2 * j ≤ d) : GO (am_XX L xs sio) (d + 5) 32 0 [some (.inr (.inr (some 35))), some (.inl p1), none, none] [] (SH, dt) (fun r w2 => ∃ dt2 : Nat → Nat → Int, w2 = (SH, dt2) ∧ InvC dt2 ∧ Fr [35, 42] dt dt2 ∧ ((r = none ∧ (SPX S t dt dt2 (gC K V (j + 1))) ∧ (0 ≤ dt2 35 8 ∧ dt2 35 8 ≤ (t : Int)) ∧ (¬ dt2 35 2 = 0 → dt2 35 8 = (t : Int)) ∧ (dt 35 8 ≤ dt2 35 8) ∧ (dt2 35 1 = dt 35 1) ∧ (dt2 35 7 = dt 35 7)))) := by
  have hF : Fr [35, 42] dt dt := Fr_refl
  have h7 : dt 35 7 = (t : Int) + 1 := h_p0.1
  have hk0 := TKc_k h_p0 h_p1
  have hv0 := TKc_v h_p0 h_p1
  have hs0 := TKc_s h_p0 h_p1
  refine go_toq PM32 (k := 1) (pc' := 1) (L' := [some (.inr (.inr (some 35))), some (.inl p1), none, none]) (st' := [.inr (.inr (some 35))]) (w' := (SH, dt)) rfl ?_
  refine go_callq PM32 PM20 (Q' := _) rfl rfl rfl rfl (sp_X1_token_f L xs sio (d + 4) dt hI K V S t hz ht  (by first | assumption | exact TKc_fr h_p0 hF (by decide) (by decide) (by decide) (by omega) | omega) (by first | assumption | exact TKc_fr h_p0 hF (by decide) (by decide) (by decide) (by omega) | omega) (by first | assumption | exact TKc_fr h_p0 hF (by decide) (by decide) (by decide) (by omega) | omega)) ?_
  rintro _ _ ⟨rfl, h1⟩
  refine ⟨rfl, ?_⟩
  rcases h1 with ⟨v_h1, rfl, h1r, h1⟩
  refine go_ifq PM32 (k := 1) (p1 := 14) (p2 := 10) (L' := [some (.inr (.inr (some 35))), some (.inl p1), none, none]) (st' := []) (w' := (SH, dt)) rfl (c_ne (a := v_h1) (b := 1005) (by first | exact bnd h1r (by decide) (by decide) | exact ⟨by omega, by omega⟩) ⟨by decide, by decide⟩) (fun c3 => ?_) (fun c3 => ?_)
  · skip
    refine go_toq PM32 (k := 5) (pc' := 21) (L' := [some (.inr (.inr (some 35))), some (.inl p1), some (.inl 0), none]) (st' := [.inr (.inr (some 35))]) (w' := (SH, dt)) rfl ?_
    refine go_callq PM32 PM20 (Q' := _) rfl rfl rfl rfl (sp_X1_token_f L xs sio (d + 4) dt hI K V S t hz ht  (by first | assumption | exact TKc_fr h_p0 hF (by decide) (by decide) (by decide) (by omega) | omega) (by first | assumption | exact TKc_fr h_p0 hF (by decide) (by decide) (by decide) (by omega) | omega) (by first | assumption | exact TKc_fr h_p0 hF (by decide) (by decide) (by decide) (by omega) | omega)) ?_
    rintro _ _ ⟨rfl, h4⟩
    refine ⟨rfl, ?_⟩
    rcases h4 with ⟨v_h4, rfl, h4r, h4⟩
    refine go_ifq PM32 (k := 1) (p1 := 107) (p2 := 29) (L' := [some (.inr (.inr (some 35))), some (.inl p1), some (.inl 0), none]) (st' := []) (w' := (SH, dt)) rfl (c_eq (a := v_h4) (b := 40) (by first | exact bnd h4r (by decide) (by decide) | exact ⟨by omega, by omega⟩) ⟨by decide, by decide⟩) (fun c6 => ?_) (fun c6 => ?_)
    · skip
      refine go_ifq PM32 (k := 2) (p1 := 121) (p2 := 113) (L' := [some (.inr (.inr (some 35))), some (.inl p1), some (.inl 0), none]) (st' := []) (w' := (SH, dt)) rfl (c_lt (a := p1) (b := 8) (by first | exact bnd h_p1 (by decide) (by decide) | exact ⟨by omega, by omega⟩) ⟨by decide, by decide⟩) (fun c7 => ?_) (fun c7 => ?_)
      · skip
        refine go_toq PM32 (k := 7) (pc' := 158) (L' := [some (.inr (.inr (some 35))), some (.inl p1), some (.inl 0), none]) (st' := [.inl ((dt 35 8) + 1), .inr (.inr (some 35))]) (w' := (SH, dt)) rfl ?_
        have hI8 : InvC (u2 dt 35 8 ((dt 35 8) + 1)) := InvC_u2 hI (lo := -2147483648) (hi := 2147483647) rfl rfl rfl (by omega) (by omega)
        have hF9 : Fr [35, 42] dt (u2 dt 35 8 ((dt 35 8) + 1)) := Fr_u2 hF (by decide)
        have w10 : (u2 dt 35 8 ((dt 35 8) + 1)) 35 1 = dt 35 1 := rfl
        have w11 : (u2 dt 35 8 ((dt 35 8) + 1)) 35 2 = dt 35 2 := rfl
        have w12 : (u2 dt 35 8 ((dt 35 8) + 1)) 35 3 = dt 35 3 := rfl
        have w13 : (u2 dt 35 8 ((dt 35 8) + 1)) 35 7 = dt 35 7 := rfl
        have w14 : (u2 dt 35 8 ((dt 35 8) + 1)) 35 8 = (dt 35 8) + 1 := rfl
        have lv16 := KLIVE hz (D := dt) (by omega) (by omega) (by omega)
        have X15 : PX S t (gC K V (j + 1)) (fun i => gB (gB_ K V j i) (gK K 41)) dt (u2 dt 35 8 ((dt 35 8) + 1)) := PX_st PX_0 (SPX_inc hz (by omega) (by omega) (by omega) (by omega) (by omega)) (fun hl => by first | (show (gC K V (j + 1)) (dt 35 8).toNat = (fun i => gB (gB_ K V j i) (gK K 41)) ((dt 35 8).toNat + 1); exact gC_p (by omega)) | (exfalso; omega))
        refine go_smpq PM32 (L' := [some (.inr (.inr (some 35))), some (.inl p1), some (.inl 0), none]) (st' := []) (w' := (SH, (u2 dt 35 8 ((dt 35 8) + 1)))) rfl rfl (s_pf rfl rfl rfl rfl ⟨by omega, by omega⟩) ?_
        refine go_toq PM32 (k := 4) (pc' := 165) (L' := [some (.inr (.inr (some 35))), some (.inl p1), some (.inl 0), none]) (st' := [.inl (p1 + 1), .inr (.inr (some 35))]) (w' := (SH, (u2 dt 35 8 ((dt 35 8) + 1)))) rfl ?_
        refine go_callq PM32 PM31 (Q' := _) rfl rfl rfl rfl (IH_X1_condition L xs sio (d + 0) (u2 dt 35 8 ((dt 35 8) + 1)) hI8 K V S t hz ht (p1 + 1) (by first | exact bndp h_p1 (by decide) (by decide) | exact ⟨by omega, by omega⟩) (by first | assumption | exact TKc_fr h_p0 hF9 (by decide) (by decide) (by decide) (by omega) | omega) (by first | assumption | exact TKc_fr h_p0 hF9 (by decide) (by decide) (by decide) (by omega) | omega) (by first | assumption | exact TKc_fr h_p0 hF9 (by decide) (by decide) (by decide) (by omega) | omega) (by first | assumption | exact TKc_fr h_p0 hF9 (by decide) (by decide) (by decide) (by omega) | omega) (by first | assumption | exact TKc_fr h_p0 hF9 (by decide) (by decide) (by decide) (by omega) | omega)) ?_
        rintro _ _ ⟨dt18, rfl, hI19, hF20, h17⟩
        refine ⟨rfl, ?_⟩
        have hF21 : Fr [35, 42] dt dt18 := Fr_tr hF9 hF20 (by decide)
        rcases h17 with ⟨rfl, h17⟩
        obtain ⟨h17_0, h17_1, h17_2, h17_3, h17_4, h17_5⟩ := h17
        have X22 : PX S t (gC K V (j + 1)) (gK K 41) dt dt18 := PX_st X15 h17_0 (fun hl => by first | exact rfl | (exfalso; omega))
        refine go_toq PM32 (k := 2) (pc' := 171) (L' := [some (.inr (.inr (some 35))), some (.inl p1), some (.inl 0), none]) (st' := [.inl 41, .inr (.inr (some 35))]) (w' := (SH, dt18)) rfl ?_
        refine go_callq PM32 PM22 (Q' := _) rfl rfl rfl rfl (sp_X1_skip_f L xs sio (d + 3) dt18 hI19 K V S t hz ht 41 ⟨by decide, by decide⟩ (by first | assumption | exact TKc_fr h_p0 hF21 (by decide) (by decide) (by decide) (by omega) | omega) (by first | assumption | exact TKc_fr h_p0 hF21 (by decide) (by decide) (by decide) (by omega) | omega) (by first | assumption | exact TKc_fr h_p0 hF21 (by decide) (by decide) (by decide) (by omega) | omega)) ?_
        rintro _ _ ⟨dt24, rfl, hI25, hF26, h23⟩
        refine ⟨rfl, ?_⟩
        have hF27 : Fr [35, 42] dt dt24 := Fr_tr hF21 hF26 (by decide)
        rcases h23 with ⟨rfl, h23⟩
        obtain ⟨h23_0, h23_1, h23_2, h23_3, h23_4, h23_5⟩ := h23
        have X28 : PX S t (gC K V (j + 1)) gOk dt dt24 := PX_st X22 h23_0 (fun hl => by first | exact gB_id.symm | (exfalso; omega))
        refine go_retq PM32 (k := 0) (r := none) (w1 := (SH, dt24)) rfl ?_
        exact ⟨dt24, rfl, hI25, hF27, ⟨rfl, ⟨by exact PX_e X28 (by omega), by first | exact True.intro | assumption | rfl | omega | trivial, by first | exact True.intro | assumption | rfl | omega | trivial, by first | exact True.intro | assumption | rfl | omega | trivial, by first | exact True.intro | assumption | rfl | omega | trivial, by first | exact True.intro | assumption | rfl | omega | trivial⟩⟩⟩
      · skip
        refine go_toq PM32 (k := 2) (pc' := 115) (L' := [some (.inr (.inr (some 35))), some (.inl p1), some (.inl 0), none]) (st' := [.inl 3, .inr (.inr (some 35))]) (w' := (SH, dt)) rfl ?_
        refine go_callq PM32 PM21 (Q' := _) rfl rfl rfl rfl (sp_X1_fail_f L xs sio (d + 4) dt hI K V S t hz ht 3 ⟨by decide, by decide⟩ (by first | assumption | exact TKc_fr h_p0 hF (by decide) (by decide) (by decide) (by omega) | omega) (by first | assumption | exact TKc_fr h_p0 hF (by decide) (by decide) (by decide) (by omega) | omega) (by first | assumption | exact TKc_fr h_p0 hF (by decide) (by decide) (by decide) (by omega) | omega)) ?_
        rintro _ _ ⟨dt30, rfl, hI31, hF32, h29⟩
        refine ⟨rfl, ?_⟩
        have hF33 : Fr [35, 42] dt dt30 := Fr_tr hF hF32 (by decide)
        rcases h29 with ⟨rfl, h29⟩
        obtain ⟨h29_0, h29_1, h29_2, h29_3, h29_4⟩ := h29
        have X34 : PX S t (gC K V (j + 1)) gOk dt dt30 := PX_st PX_0 h29_0 (fun hl => by first | exact (by exact gC_3 (by omega) : _ = ((3 : Int), (dt 35 8).toNat)).trans (gB_no (by show ¬ ((3 : Int) = 0); omega)).symm | (exfalso; omega))
        refine go_retq PM32 (k := 1) (r := none) (w1 := (SH, dt30)) rfl ?_
        exact ⟨dt30, rfl, hI31, hF33, ⟨rfl, ⟨by exact PX_e X34 (by omega), by first | exact True.intro | assumption | rfl | omega | trivial, by first | exact True.intro | assumption | rfl | omega | trivial, by first | exact True.intro | assumption | rfl | omega | trivial, by first | exact True.intro | assumption | rfl | omega | trivial, by first | exact True.intro | assumption | rfl | omega | trivial⟩⟩⟩
    · skip
      refine go_toq PM32 (k := 1) (pc' := 30) (L' := [some (.inr (.inr (some 35))), some (.inl p1), some (.inl 0), none]) (st' := [.inr (.inr (some 35))]) (w' := (SH, dt)) rfl ?_
      refine go_callq PM32 PM33 (Q' := _) rfl rfl rfl rfl (sp_X1_sum_f L xs sio (d + 2) dt hI K V S t hz ht  (by first | assumption | exact TKc_fr h_p0 hF (by decide) (by decide) (by decide) (by omega) | omega) (by first | assumption | exact TKc_fr h_p0 hF (by decide) (by decide) (by decide) (by omega) | omega) (by first | assumption | exact TKc_fr h_p0 hF (by decide) (by decide) (by decide) (by omega) | omega)) ?_
      rintro _ _ ⟨dt36, rfl, hI37, hF38, h35⟩
      refine ⟨rfl, ?_⟩
      have hF39 : Fr [35, 42] dt dt36 := Fr_tr hF hF38 (by decide)
      rcases h35 with ⟨rfl, h35⟩
      obtain ⟨h35_0, h35_1, h35_2, h35_3, h35_4, h35_5⟩ := h35
      have X40 : PX S t (gC K V (j + 1)) (gR1 K V) dt dt36 := PX_st PX_0 h35_0 (fun hl => by first | exact (gC_1 (by omega) (by omega)).trans gC1_R | (exfalso; omega))
      refine go_toq PM32 (k := 1) (pc' := 34) (L' := [some (.inr (.inr (some 35))), some (.inl p1), some (.inl 0), none]) (st' := [.inr (.inr (some 35))]) (w' := (SH, dt36)) rfl ?_
      refine go_callq PM32 PM20 (Q' := _) rfl rfl rfl rfl (sp_X1_token_f L xs sio (d + 4) dt36 hI37 K V S t hz ht  (by first | assumption | exact TKc_fr h_p0 hF39 (by decide) (by decide) (by decide) (by omega) | omega) (by first | assumption | exact TKc_fr h_p0 hF39 (by decide) (by decide) (by decide) (by omega) | omega) (by first | assumption | exact TKc_fr h_p0 hF39 (by decide) (by decide) (by decide) (by omega) | omega)) ?_
      rintro _ _ ⟨rfl, h41⟩
      refine ⟨rfl, ?_⟩
      rcases h41 with ⟨v_h41, rfl, h41r, h41⟩
      refine go_ifq PM32 (k := 3) (p1 := 62) (p2 := 44) (L' := [some (.inr (.inr (some 35))), some (.inl p1), some (.inl 0), some (.inl v_h41)]) (st' := []) (w' := (SH, dt36)) rfl (c_eq (a := v_h41) (b := 60) (by first | exact bnd h41r (by decide) (by decide) | exact ⟨by omega, by omega⟩) ⟨by decide, by decide⟩) (fun c43 => ?_) (fun c43 => ?_)
      · skip
        refine go_toq PM32 (k := 5) (pc' := 69) (L' := [some (.inr (.inr (some 35))), some (.inl p1), some (.inl 0), some (.inl v_h41)]) (st' := [.inl ((dt36 35 8) + 1), .inr (.inr (some 35))]) (w' := (SH, dt36)) rfl ?_
        have hI44 : InvC (u2 dt36 35 8 ((dt36 35 8) + 1)) := InvC_u2 hI37 (lo := -2147483648) (hi := 2147483647) rfl rfl rfl (by omega) (by omega)
        have hF45 : Fr [35, 42] dt (u2 dt36 35 8 ((dt36 35 8) + 1)) := Fr_u2 hF39 (by decide)
        have w46 : (u2 dt36 35 8 ((dt36 35 8) + 1)) 35 1 = dt36 35 1 := rfl
        have w47 : (u2 dt36 35 8 ((dt36 35 8) + 1)) 35 2 = dt36 35 2 := rfl
        have w48 : (u2 dt36 35 8 ((dt36 35 8) + 1)) 35 3 = dt36 35 3 := rfl
        have w49 : (u2 dt36 35 8 ((dt36 35 8) + 1)) 35 7 = dt36 35 7 := rfl
        have w50 : (u2 dt36 35 8 ((dt36 35 8) + 1)) 35 8 = (dt36 35 8) + 1 := rfl
        have lv52 := KLIVE hz (D := dt36) (by omega) (by omega) (by omega)
        have X51 : PX S t (gC K V (j + 1)) (gE K V) dt (u2 dt36 35 8 ((dt36 35 8) + 1)) := PX_st X40 (SPX_inc hz (by omega) (by omega) (by omega) (by omega) (by omega)) (fun hl => by first | (show (gR1 K V) (dt36 35 8).toNat = (gE K V) ((dt36 35 8).toNat + 1); unfold gR1; rw [if_pos (by omega)]) | (exfalso; omega))
        refine go_smpq PM32 (L' := [some (.inr (.inr (some 35))), some (.inl p1), some (.inl 0), some (.inl v_h41)]) (st' := []) (w' := (SH, (u2 dt36 35 8 ((dt36 35 8) + 1)))) rfl rfl (s_pf rfl rfl rfl rfl ⟨by omega, by omega⟩) ?_
        refine go_toq PM32 (k := 1) (pc' := 73) (L' := [some (.inr (.inr (some 35))), some (.inl p1), some (.inl 0), some (.inl v_h41)]) (st' := [.inr (.inr (some 35))]) (w' := (SH, (u2 dt36 35 8 ((dt36 35 8) + 1)))) rfl ?_
        refine go_callq PM32 PM33 (Q' := _) rfl rfl rfl rfl (sp_X1_sum_f L xs sio (d + 2) (u2 dt36 35 8 ((dt36 35 8) + 1)) hI44 K V S t hz ht  (by first | assumption | exact TKc_fr h_p0 hF45 (by decide) (by decide) (by decide) (by omega) | omega) (by first | assumption | exact TKc_fr h_p0 hF45 (by decide) (by decide) (by decide) (by omega) | omega) (by first | assumption | exact TKc_fr h_p0 hF45 (by decide) (by decide) (by decide) (by omega) | omega)) ?_
        rintro _ _ ⟨dt54, rfl, hI55, hF56, h53⟩
        refine ⟨rfl, ?_⟩
        have hF57 : Fr [35, 42] dt dt54 := Fr_tr hF45 hF56 (by decide)
        rcases h53 with ⟨rfl, h53⟩
        obtain ⟨h53_0, h53_1, h53_2, h53_3, h53_4, h53_5⟩ := h53
        have X58 : PX S t (gC K V (j + 1)) gOk dt dt54 := PX_st X51 h53_0 (fun hl => by first | exact gB_id.symm | (exfalso; omega))
        refine go_ifq PM32 (k := 3) (p1 := 88) (p2 := 83) (L' := [some (.inr (.inr (some 35))), some (.inl p1), some (.inl 0), some (.inl v_h41)]) (st' := [.inr (.inr (some 35))]) (w' := (SH, dt54)) rfl (c_ne (a := v_h41) (b := 60) (by first | exact bnd h41r (by decide) (by decide) | exact ⟨by omega, by omega⟩) ⟨by decide, by decide⟩) (fun c59 => ?_) (fun c59 => ?_)
        · skip
          refine go_ifq PM32 (k := 2) (p1 := 99) (p2 := 94) (L' := [some (.inr (.inr (some 35))), some (.inl p1), some (.inl 0), some (.inl v_h41)]) (st' := [.inr (.inr (some 35))]) (w' := (SH, dt54)) rfl (c_ne (a := v_h41) (b := 61) (by first | exact bnd h41r (by decide) (by decide) | exact ⟨by omega, by omega⟩) ⟨by decide, by decide⟩) (fun c60 => ?_) (fun c60 => ?_)
          · skip
            refine go_toq PM32 (k := 1) (pc' := 101) (L' := [some (.inr (.inr (some 35))), some (.inl p1), some (.inl 0), some (.inl v_h41)]) (st' := [.inl (-7), .inr (.inr (some 35))]) (w' := (SH, dt54)) rfl ?_
            refine go_callq PM32 PM30 (Q' := _) rfl rfl rfl rfl (sp_X1_emit_f L xs sio (d + 4) dt54 hI55  (-7) ⟨by decide, by decide⟩ ) ?_
            rintro _ _ ⟨dt62, rfl, hI63, hF64, h61⟩
            refine ⟨rfl, ?_⟩
            have hF65 : Fr [35, 42] dt dt62 := Fr_tr hF57 hF64 (by decide)
            rcases h61 with ⟨rfl, h61⟩
            obtain ⟨h61_0, h61_1, h61_2, h61_3, h61_4⟩ := h61
            have X66 : PX S t (gC K V (j + 1)) gOk dt dt62 := PX_sm X58 (by omega) (by omega) (by omega)
            have ek67 : (dt62 35 8).toNat = (dt54 35 8).toNat := by omega
            have kk68 : K (dt62 35 8).toNat = K (dt54 35 8).toNat := congrArg K ek67
            have kk69 : V (dt62 35 8).toNat = V (dt54 35 8).toNat := congrArg V ek67
            refine go_retq PM32 (k := 1) (r := none) (w1 := (SH, dt62)) rfl ?_
            exact ⟨dt62, rfl, hI63, hF65, ⟨rfl, ⟨by exact PX_e X66 (by omega), by first | exact True.intro | assumption | rfl | omega | trivial, by first | exact True.intro | assumption | rfl | omega | trivial, by first | exact True.intro | assumption | rfl | omega | trivial, by first | exact True.intro | assumption | rfl | omega | trivial, by first | exact True.intro | assumption | rfl | omega | trivial⟩⟩⟩
          · exfalso; omega
        · skip
          refine go_toq PM32 (k := 2) (pc' := 101) (L' := [some (.inr (.inr (some 35))), some (.inl p1), some (.inl 0), some (.inl v_h41)]) (st' := [.inl (-5), .inr (.inr (some 35))]) (w' := (SH, dt54)) rfl ?_
          refine go_callq PM32 PM30 (Q' := _) rfl rfl rfl rfl (sp_X1_emit_f L xs sio (d + 4) dt54 hI55  (-5) ⟨by decide, by decide⟩ ) ?_
          rintro _ _ ⟨dt71, rfl, hI72, hF73, h70⟩
          refine ⟨rfl, ?_⟩
          have hF74 : Fr [35, 42] dt dt71 := Fr_tr hF57 hF73 (by decide)
          rcases h70 with ⟨rfl, h70⟩
          obtain ⟨h70_0, h70_1, h70_2, h70_3, h70_4⟩ := h70
          have X75 : PX S t (gC K V (j + 1)) gOk dt dt71 := PX_sm X58 (by omega) (by omega) (by omega)
          have ek76 : (dt71 35 8).toNat = (dt54 35 8).toNat := by omega
          have kk77 : K (dt71 35 8).toNat = K (dt54 35 8).toNat := congrArg K ek76
          have kk78 : V (dt71 35 8).toNat = V (dt54 35 8).toNat := congrArg V ek76
          refine go_retq PM32 (k := 1) (r := none) (w1 := (SH, dt71)) rfl ?_
          exact ⟨dt71, rfl, hI72, hF74, ⟨rfl, ⟨by exact PX_e X75 (by omega), by first | exact True.intro | assumption | rfl | omega | trivial, by first | exact True.intro | assumption | rfl | omega | trivial, by first | exact True.intro | assumption | rfl | omega | trivial, by first | exact True.intro | assumption | rfl | omega | trivial, by first | exact True.intro | assumption | rfl | omega | trivial⟩⟩⟩
      · skip
        refine go_ifq PM32 (k := 2) (p1 := 62) (p2 := 50) (L' := [some (.inr (.inr (some 35))), some (.inl p1), some (.inl 0), some (.inl v_h41)]) (st' := []) (w' := (SH, dt36)) rfl (c_eq (a := v_h41) (b := 61) (by first | exact bnd h41r (by decide) (by decide) | exact ⟨by omega, by omega⟩) ⟨by decide, by decide⟩) (fun c79 => ?_) (fun c79 => ?_)
        · skip
          refine go_toq PM32 (k := 5) (pc' := 69) (L' := [some (.inr (.inr (some 35))), some (.inl p1), some (.inl 0), some (.inl v_h41)]) (st' := [.inl ((dt36 35 8) + 1), .inr (.inr (some 35))]) (w' := (SH, dt36)) rfl ?_
          have hI80 : InvC (u2 dt36 35 8 ((dt36 35 8) + 1)) := InvC_u2 hI37 (lo := -2147483648) (hi := 2147483647) rfl rfl rfl (by omega) (by omega)
          have hF81 : Fr [35, 42] dt (u2 dt36 35 8 ((dt36 35 8) + 1)) := Fr_u2 hF39 (by decide)
          have w82 : (u2 dt36 35 8 ((dt36 35 8) + 1)) 35 1 = dt36 35 1 := rfl
          have w83 : (u2 dt36 35 8 ((dt36 35 8) + 1)) 35 2 = dt36 35 2 := rfl
          have w84 : (u2 dt36 35 8 ((dt36 35 8) + 1)) 35 3 = dt36 35 3 := rfl
          have w85 : (u2 dt36 35 8 ((dt36 35 8) + 1)) 35 7 = dt36 35 7 := rfl
          have w86 : (u2 dt36 35 8 ((dt36 35 8) + 1)) 35 8 = (dt36 35 8) + 1 := rfl
          have lv88 := KLIVE hz (D := dt36) (by omega) (by omega) (by omega)
          have X87 : PX S t (gC K V (j + 1)) (gE K V) dt (u2 dt36 35 8 ((dt36 35 8) + 1)) := PX_st X40 (SPX_inc hz (by omega) (by omega) (by omega) (by omega) (by omega)) (fun hl => by first | (show (gR1 K V) (dt36 35 8).toNat = (gE K V) ((dt36 35 8).toNat + 1); unfold gR1; rw [if_pos (by omega)]) | (exfalso; omega))
          refine go_smpq PM32 (L' := [some (.inr (.inr (some 35))), some (.inl p1), some (.inl 0), some (.inl v_h41)]) (st' := []) (w' := (SH, (u2 dt36 35 8 ((dt36 35 8) + 1)))) rfl rfl (s_pf rfl rfl rfl rfl ⟨by omega, by omega⟩) ?_
          refine go_toq PM32 (k := 1) (pc' := 73) (L' := [some (.inr (.inr (some 35))), some (.inl p1), some (.inl 0), some (.inl v_h41)]) (st' := [.inr (.inr (some 35))]) (w' := (SH, (u2 dt36 35 8 ((dt36 35 8) + 1)))) rfl ?_
          refine go_callq PM32 PM33 (Q' := _) rfl rfl rfl rfl (sp_X1_sum_f L xs sio (d + 2) (u2 dt36 35 8 ((dt36 35 8) + 1)) hI80 K V S t hz ht  (by first | assumption | exact TKc_fr h_p0 hF81 (by decide) (by decide) (by decide) (by omega) | omega) (by first | assumption | exact TKc_fr h_p0 hF81 (by decide) (by decide) (by decide) (by omega) | omega) (by first | assumption | exact TKc_fr h_p0 hF81 (by decide) (by decide) (by decide) (by omega) | omega)) ?_
          rintro _ _ ⟨dt90, rfl, hI91, hF92, h89⟩
          refine ⟨rfl, ?_⟩
          have hF93 : Fr [35, 42] dt dt90 := Fr_tr hF81 hF92 (by decide)
          rcases h89 with ⟨rfl, h89⟩
          obtain ⟨h89_0, h89_1, h89_2, h89_3, h89_4, h89_5⟩ := h89
          have X94 : PX S t (gC K V (j + 1)) gOk dt dt90 := PX_st X87 h89_0 (fun hl => by first | exact gB_id.symm | (exfalso; omega))
          refine go_ifq PM32 (k := 3) (p1 := 88) (p2 := 83) (L' := [some (.inr (.inr (some 35))), some (.inl p1), some (.inl 0), some (.inl v_h41)]) (st' := [.inr (.inr (some 35))]) (w' := (SH, dt90)) rfl (c_ne (a := v_h41) (b := 60) (by first | exact bnd h41r (by decide) (by decide) | exact ⟨by omega, by omega⟩) ⟨by decide, by decide⟩) (fun c95 => ?_) (fun c95 => ?_)
          · skip
            refine go_ifq PM32 (k := 2) (p1 := 99) (p2 := 94) (L' := [some (.inr (.inr (some 35))), some (.inl p1), some (.inl 0), some (.inl v_h41)]) (st' := [.inr (.inr (some 35))]) (w' := (SH, dt90)) rfl (c_ne (a := v_h41) (b := 61) (by first | exact bnd h41r (by decide) (by decide) | exact ⟨by omega, by omega⟩) ⟨by decide, by decide⟩) (fun c96 => ?_) (fun c96 => ?_)
            · skip
              refine go_toq PM32 (k := 1) (pc' := 101) (L' := [some (.inr (.inr (some 35))), some (.inl p1), some (.inl 0), some (.inl v_h41)]) (st' := [.inl (-7), .inr (.inr (some 35))]) (w' := (SH, dt90)) rfl ?_
              refine go_callq PM32 PM30 (Q' := _) rfl rfl rfl rfl (sp_X1_emit_f L xs sio (d + 4) dt90 hI91  (-7) ⟨by decide, by decide⟩ ) ?_
              rintro _ _ ⟨dt98, rfl, hI99, hF100, h97⟩
              refine ⟨rfl, ?_⟩
              have hF101 : Fr [35, 42] dt dt98 := Fr_tr hF93 hF100 (by decide)
              rcases h97 with ⟨rfl, h97⟩
              obtain ⟨h97_0, h97_1, h97_2, h97_3, h97_4⟩ := h97
              have X102 : PX S t (gC K V (j + 1)) gOk dt dt98 := PX_sm X94 (by omega) (by omega) (by omega)
              have ek103 : (dt98 35 8).toNat = (dt90 35 8).toNat := by omega
              have kk104 : K (dt98 35 8).toNat = K (dt90 35 8).toNat := congrArg K ek103
              have kk105 : V (dt98 35 8).toNat = V (dt90 35 8).toNat := congrArg V ek103
              refine go_retq PM32 (k := 1) (r := none) (w1 := (SH, dt98)) rfl ?_
              exact ⟨dt98, rfl, hI99, hF101, ⟨rfl, ⟨by exact PX_e X102 (by omega), by first | exact True.intro | assumption | rfl | omega | trivial, by first | exact True.intro | assumption | rfl | omega | trivial, by first | exact True.intro | assumption | rfl | omega | trivial, by first | exact True.intro | assumption | rfl | omega | trivial, by first | exact True.intro | assumption | rfl | omega | trivial⟩⟩⟩
            · skip
              refine go_toq PM32 (k := 2) (pc' := 101) (L' := [some (.inr (.inr (some 35))), some (.inl p1), some (.inl 0), some (.inl v_h41)]) (st' := [.inl (-6), .inr (.inr (some 35))]) (w' := (SH, dt90)) rfl ?_
              refine go_callq PM32 PM30 (Q' := _) rfl rfl rfl rfl (sp_X1_emit_f L xs sio (d + 4) dt90 hI91  (-6) ⟨by decide, by decide⟩ ) ?_
              rintro _ _ ⟨dt107, rfl, hI108, hF109, h106⟩
              refine ⟨rfl, ?_⟩
              have hF110 : Fr [35, 42] dt dt107 := Fr_tr hF93 hF109 (by decide)
              rcases h106 with ⟨rfl, h106⟩
              obtain ⟨h106_0, h106_1, h106_2, h106_3, h106_4⟩ := h106
              have X111 : PX S t (gC K V (j + 1)) gOk dt dt107 := PX_sm X94 (by omega) (by omega) (by omega)
              have ek112 : (dt107 35 8).toNat = (dt90 35 8).toNat := by omega
              have kk113 : K (dt107 35 8).toNat = K (dt90 35 8).toNat := congrArg K ek112
              have kk114 : V (dt107 35 8).toNat = V (dt90 35 8).toNat := congrArg V ek112
              refine go_retq PM32 (k := 1) (r := none) (w1 := (SH, dt107)) rfl ?_
              exact ⟨dt107, rfl, hI108, hF110, ⟨rfl, ⟨by exact PX_e X111 (by omega), by first | exact True.intro | assumption | rfl | omega | trivial, by first | exact True.intro | assumption | rfl | omega | trivial, by first | exact True.intro | assumption | rfl | omega | trivial, by first | exact True.intro | assumption | rfl | omega | trivial, by first | exact True.intro | assumption | rfl | omega | trivial⟩⟩⟩
          · exfalso; omega
        · skip
          refine go_ifq PM32 (k := 2) (p1 := 62) (p2 := 56) (L' := [some (.inr (.inr (some 35))), some (.inl p1), some (.inl 0), some (.inl v_h41)]) (st' := []) (w' := (SH, dt36)) rfl (c_eq (a := v_h41) (b := 62) (by first | exact bnd h41r (by decide) (by decide) | exact ⟨by omega, by omega⟩) ⟨by decide, by decide⟩) (fun c115 => ?_) (fun c115 => ?_)
          · skip
            refine go_toq PM32 (k := 5) (pc' := 69) (L' := [some (.inr (.inr (some 35))), some (.inl p1), some (.inl 0), some (.inl v_h41)]) (st' := [.inl ((dt36 35 8) + 1), .inr (.inr (some 35))]) (w' := (SH, dt36)) rfl ?_
            have hI116 : InvC (u2 dt36 35 8 ((dt36 35 8) + 1)) := InvC_u2 hI37 (lo := -2147483648) (hi := 2147483647) rfl rfl rfl (by omega) (by omega)
            have hF117 : Fr [35, 42] dt (u2 dt36 35 8 ((dt36 35 8) + 1)) := Fr_u2 hF39 (by decide)
            have w118 : (u2 dt36 35 8 ((dt36 35 8) + 1)) 35 1 = dt36 35 1 := rfl
            have w119 : (u2 dt36 35 8 ((dt36 35 8) + 1)) 35 2 = dt36 35 2 := rfl
            have w120 : (u2 dt36 35 8 ((dt36 35 8) + 1)) 35 3 = dt36 35 3 := rfl
            have w121 : (u2 dt36 35 8 ((dt36 35 8) + 1)) 35 7 = dt36 35 7 := rfl
            have w122 : (u2 dt36 35 8 ((dt36 35 8) + 1)) 35 8 = (dt36 35 8) + 1 := rfl
            have lv124 := KLIVE hz (D := dt36) (by omega) (by omega) (by omega)
            have X123 : PX S t (gC K V (j + 1)) (gE K V) dt (u2 dt36 35 8 ((dt36 35 8) + 1)) := PX_st X40 (SPX_inc hz (by omega) (by omega) (by omega) (by omega) (by omega)) (fun hl => by first | (show (gR1 K V) (dt36 35 8).toNat = (gE K V) ((dt36 35 8).toNat + 1); unfold gR1; rw [if_pos (by omega)]) | (exfalso; omega))
            refine go_smpq PM32 (L' := [some (.inr (.inr (some 35))), some (.inl p1), some (.inl 0), some (.inl v_h41)]) (st' := []) (w' := (SH, (u2 dt36 35 8 ((dt36 35 8) + 1)))) rfl rfl (s_pf rfl rfl rfl rfl ⟨by omega, by omega⟩) ?_
            refine go_toq PM32 (k := 1) (pc' := 73) (L' := [some (.inr (.inr (some 35))), some (.inl p1), some (.inl 0), some (.inl v_h41)]) (st' := [.inr (.inr (some 35))]) (w' := (SH, (u2 dt36 35 8 ((dt36 35 8) + 1)))) rfl ?_
            refine go_callq PM32 PM33 (Q' := _) rfl rfl rfl rfl (sp_X1_sum_f L xs sio (d + 2) (u2 dt36 35 8 ((dt36 35 8) + 1)) hI116 K V S t hz ht  (by first | assumption | exact TKc_fr h_p0 hF117 (by decide) (by decide) (by decide) (by omega) | omega) (by first | assumption | exact TKc_fr h_p0 hF117 (by decide) (by decide) (by decide) (by omega) | omega) (by first | assumption | exact TKc_fr h_p0 hF117 (by decide) (by decide) (by decide) (by omega) | omega)) ?_
            rintro _ _ ⟨dt126, rfl, hI127, hF128, h125⟩
            refine ⟨rfl, ?_⟩
            have hF129 : Fr [35, 42] dt dt126 := Fr_tr hF117 hF128 (by decide)
            rcases h125 with ⟨rfl, h125⟩
            obtain ⟨h125_0, h125_1, h125_2, h125_3, h125_4, h125_5⟩ := h125
            have X130 : PX S t (gC K V (j + 1)) gOk dt dt126 := PX_st X123 h125_0 (fun hl => by first | exact gB_id.symm | (exfalso; omega))
            refine go_ifq PM32 (k := 3) (p1 := 88) (p2 := 83) (L' := [some (.inr (.inr (some 35))), some (.inl p1), some (.inl 0), some (.inl v_h41)]) (st' := [.inr (.inr (some 35))]) (w' := (SH, dt126)) rfl (c_ne (a := v_h41) (b := 60) (by first | exact bnd h41r (by decide) (by decide) | exact ⟨by omega, by omega⟩) ⟨by decide, by decide⟩) (fun c131 => ?_) (fun c131 => ?_)
            · skip
              refine go_ifq PM32 (k := 2) (p1 := 99) (p2 := 94) (L' := [some (.inr (.inr (some 35))), some (.inl p1), some (.inl 0), some (.inl v_h41)]) (st' := [.inr (.inr (some 35))]) (w' := (SH, dt126)) rfl (c_ne (a := v_h41) (b := 61) (by first | exact bnd h41r (by decide) (by decide) | exact ⟨by omega, by omega⟩) ⟨by decide, by decide⟩) (fun c132 => ?_) (fun c132 => ?_)
              · skip
                refine go_toq PM32 (k := 1) (pc' := 101) (L' := [some (.inr (.inr (some 35))), some (.inl p1), some (.inl 0), some (.inl v_h41)]) (st' := [.inl (-7), .inr (.inr (some 35))]) (w' := (SH, dt126)) rfl ?_
                refine go_callq PM32 PM30 (Q' := _) rfl rfl rfl rfl (sp_X1_emit_f L xs sio (d + 4) dt126 hI127  (-7) ⟨by decide, by decide⟩ ) ?_
                rintro _ _ ⟨dt134, rfl, hI135, hF136, h133⟩
                refine ⟨rfl, ?_⟩
                have hF137 : Fr [35, 42] dt dt134 := Fr_tr hF129 hF136 (by decide)
                rcases h133 with ⟨rfl, h133⟩
                obtain ⟨h133_0, h133_1, h133_2, h133_3, h133_4⟩ := h133
                have X138 : PX S t (gC K V (j + 1)) gOk dt dt134 := PX_sm X130 (by omega) (by omega) (by omega)
                have ek139 : (dt134 35 8).toNat = (dt126 35 8).toNat := by omega
                have kk140 : K (dt134 35 8).toNat = K (dt126 35 8).toNat := congrArg K ek139
                have kk141 : V (dt134 35 8).toNat = V (dt126 35 8).toNat := congrArg V ek139
                refine go_retq PM32 (k := 1) (r := none) (w1 := (SH, dt134)) rfl ?_
                exact ⟨dt134, rfl, hI135, hF137, ⟨rfl, ⟨by exact PX_e X138 (by omega), by first | exact True.intro | assumption | rfl | omega | trivial, by first | exact True.intro | assumption | rfl | omega | trivial, by first | exact True.intro | assumption | rfl | omega | trivial, by first | exact True.intro | assumption | rfl | omega | trivial, by first | exact True.intro | assumption | rfl | omega | trivial⟩⟩⟩
              · exfalso; omega
            · exfalso; omega
          · skip
            refine go_toq PM32 (k := 2) (pc' := 58) (L' := [some (.inr (.inr (some 35))), some (.inl p1), some (.inl 0), some (.inl v_h41)]) (st' := [.inl 1, .inr (.inr (some 35))]) (w' := (SH, dt36)) rfl ?_
            refine go_callq PM32 PM21 (Q' := _) rfl rfl rfl rfl (sp_X1_fail_f L xs sio (d + 4) dt36 hI37 K V S t hz ht 1 ⟨by decide, by decide⟩ (by first | assumption | exact TKc_fr h_p0 hF39 (by decide) (by decide) (by decide) (by omega) | omega) (by first | assumption | exact TKc_fr h_p0 hF39 (by decide) (by decide) (by decide) (by omega) | omega) (by first | assumption | exact TKc_fr h_p0 hF39 (by decide) (by decide) (by decide) (by omega) | omega)) ?_
            rintro _ _ ⟨dt143, rfl, hI144, hF145, h142⟩
            refine ⟨rfl, ?_⟩
            have hF146 : Fr [35, 42] dt dt143 := Fr_tr hF39 hF145 (by decide)
            rcases h142 with ⟨rfl, h142⟩
            obtain ⟨h142_0, h142_1, h142_2, h142_3, h142_4⟩ := h142
            have X147 : PX S t (gC K V (j + 1)) gOk dt dt143 := PX_st X40 h142_0 (fun hl => by first | exact (by unfold gR1; rw [if_neg (by omega)] : _ = ((1 : Int), (dt36 35 8).toNat)).trans (gB_no (by show ¬ ((1 : Int) = 0); omega)).symm | (exfalso; omega))
            refine go_retq PM32 (k := 0) (r := none) (w1 := (SH, dt143)) rfl ?_
            exact ⟨dt143, rfl, hI144, hF146, ⟨rfl, ⟨by exact PX_e X147 (by omega), by first | exact True.intro | assumption | rfl | omega | trivial, by first | exact True.intro | assumption | rfl | omega | trivial, by first | exact True.intro | assumption | rfl | omega | trivial, by first | exact True.intro | assumption | rfl | omega | trivial, by first | exact True.intro | assumption | rfl | omega | trivial⟩⟩⟩
  · skip
    refine go_ifq PM32 (k := 7) (p1 := 121) (p2 := 113) (L' := [some (.inr (.inr (some 35))), some (.inl p1), some (.inl 1), none]) (st' := []) (w' := (SH, dt)) rfl (c_lt (a := p1) (b := 8) (by first | exact bnd h_p1 (by decide) (by decide) | exact ⟨by omega, by omega⟩) ⟨by decide, by decide⟩) (fun c148 => ?_) (fun c148 => ?_)
    · skip
      refine go_toq PM32 (k := 7) (pc' := 132) (L' := [some (.inr (.inr (some 35))), some (.inl p1), some (.inl 1), none]) (st' := [.inl ((dt 35 8) + 1), .inr (.inr (some 35))]) (w' := (SH, dt)) rfl ?_
      have hI149 : InvC (u2 dt 35 8 ((dt 35 8) + 1)) := InvC_u2 hI (lo := -2147483648) (hi := 2147483647) rfl rfl rfl (by omega) (by omega)
      have hF150 : Fr [35, 42] dt (u2 dt 35 8 ((dt 35 8) + 1)) := Fr_u2 hF (by decide)
      have w151 : (u2 dt 35 8 ((dt 35 8) + 1)) 35 1 = dt 35 1 := rfl
      have w152 : (u2 dt 35 8 ((dt 35 8) + 1)) 35 2 = dt 35 2 := rfl
      have w153 : (u2 dt 35 8 ((dt 35 8) + 1)) 35 3 = dt 35 3 := rfl
      have w154 : (u2 dt 35 8 ((dt 35 8) + 1)) 35 7 = dt 35 7 := rfl
      have w155 : (u2 dt 35 8 ((dt 35 8) + 1)) 35 8 = (dt 35 8) + 1 := rfl
      have lv157 := KLIVE hz (D := dt) (by omega) (by omega) (by omega)
      have X156 : PX S t (gC K V (j + 1)) (gC K V j) dt (u2 dt 35 8 ((dt 35 8) + 1)) := PX_st PX_0 (SPX_inc hz (by omega) (by omega) (by omega) (by omega) (by omega)) (fun hl => by first | (show (gC K V (j + 1)) (dt 35 8).toNat = (gC K V j) ((dt 35 8).toNat + 1); exact gC_n (by omega)) | (exfalso; omega))
      refine go_smpq PM32 (L' := [some (.inr (.inr (some 35))), some (.inl p1), some (.inl 1), none]) (st' := []) (w' := (SH, (u2 dt 35 8 ((dt 35 8) + 1)))) rfl rfl (s_pf rfl rfl rfl rfl ⟨by omega, by omega⟩) ?_
      refine go_toq PM32 (k := 4) (pc' := 139) (L' := [some (.inr (.inr (some 35))), some (.inl p1), some (.inl 1), none]) (st' := [.inl (p1 + 1), .inr (.inr (some 35))]) (w' := (SH, (u2 dt 35 8 ((dt 35 8) + 1)))) rfl ?_
      refine go_callq PM32 PM32 (Q' := _) rfl rfl rfl rfl (IH_X1_single L xs sio (d + 1) (u2 dt 35 8 ((dt 35 8) + 1)) hI149 K V S t hz ht (p1 + 1) (by first | exact bndp h_p1 (by decide) (by decide) | exact ⟨by omega, by omega⟩) (by first | assumption | exact TKc_fr h_p0 hF150 (by decide) (by decide) (by decide) (by omega) | omega) (by first | assumption | exact TKc_fr h_p0 hF150 (by decide) (by decide) (by decide) (by omega) | omega) (by first | assumption | exact TKc_fr h_p0 hF150 (by decide) (by decide) (by decide) (by omega) | omega) (by first | assumption | exact TKc_fr h_p0 hF150 (by decide) (by decide) (by decide) (by omega) | omega) (by first | assumption | exact TKc_fr h_p0 hF150 (by decide) (by decide) (by decide) (by omega) | omega)) ?_
      rintro _ _ ⟨dt159, rfl, hI160, hF161, h158⟩
      refine ⟨rfl, ?_⟩
      have hF162 : Fr [35, 42] dt dt159 := Fr_tr hF150 hF161 (by decide)
      rcases h158 with ⟨rfl, h158⟩
      obtain ⟨h158_0, h158_1, h158_2, h158_3, h158_4, h158_5⟩ := h158
      have X163 : PX S t (gC K V (j + 1)) gOk dt dt159 := PX_st X156 h158_0 (fun hl => by first | exact gB_id.symm | (exfalso; omega))
      refine go_toq PM32 (k := 2) (pc' := 145) (L' := [some (.inr (.inr (some 35))), some (.inl p1), some (.inl 1), none]) (st' := [.inl (-8), .inr (.inr (some 35))]) (w' := (SH, dt159)) rfl ?_
      refine go_callq PM32 PM30 (Q' := _) rfl rfl rfl rfl (sp_X1_emit_f L xs sio (d + 4) dt159 hI160  (-8) ⟨by decide, by decide⟩ ) ?_
      rintro _ _ ⟨dt165, rfl, hI166, hF167, h164⟩
      refine ⟨rfl, ?_⟩
      have hF168 : Fr [35, 42] dt dt165 := Fr_tr hF162 hF167 (by decide)
      rcases h164 with ⟨rfl, h164⟩
      obtain ⟨h164_0, h164_1, h164_2, h164_3, h164_4⟩ := h164
      have X169 : PX S t (gC K V (j + 1)) gOk dt dt165 := PX_sm X163 (by omega) (by omega) (by omega)
      have ek170 : (dt165 35 8).toNat = (dt159 35 8).toNat := by omega
      have kk171 : K (dt165 35 8).toNat = K (dt159 35 8).toNat := congrArg K ek170
      have kk172 : V (dt165 35 8).toNat = V (dt159 35 8).toNat := congrArg V ek170
      refine go_retq PM32 (k := 1) (r := none) (w1 := (SH, dt165)) rfl ?_
      exact ⟨dt165, rfl, hI166, hF168, ⟨rfl, ⟨by exact PX_e X169 (by omega), by first | exact True.intro | assumption | rfl | omega | trivial, by first | exact True.intro | assumption | rfl | omega | trivial, by first | exact True.intro | assumption | rfl | omega | trivial, by first | exact True.intro | assumption | rfl | omega | trivial, by first | exact True.intro | assumption | rfl | omega | trivial⟩⟩⟩
    · skip
      refine go_toq PM32 (k := 2) (pc' := 115) (L' := [some (.inr (.inr (some 35))), some (.inl p1), some (.inl 1), none]) (st' := [.inl 3, .inr (.inr (some 35))]) (w' := (SH, dt)) rfl ?_
      refine go_callq PM32 PM21 (Q' := _) rfl rfl rfl rfl (sp_X1_fail_f L xs sio (d + 4) dt hI K V S t hz ht 3 ⟨by decide, by decide⟩ (by first | assumption | exact TKc_fr h_p0 hF (by decide) (by decide) (by decide) (by omega) | omega) (by first | assumption | exact TKc_fr h_p0 hF (by decide) (by decide) (by decide) (by omega) | omega) (by first | assumption | exact TKc_fr h_p0 hF (by decide) (by decide) (by decide) (by omega) | omega)) ?_
      rintro _ _ ⟨dt174, rfl, hI175, hF176, h173⟩
      refine ⟨rfl, ?_⟩
      have hF177 : Fr [35, 42] dt dt174 := Fr_tr hF hF176 (by decide)
      rcases h173 with ⟨rfl, h173⟩
      obtain ⟨h173_0, h173_1, h173_2, h173_3, h173_4⟩ := h173
      have X178 : PX S t (gC K V (j + 1)) gOk dt dt174 := PX_st PX_0 h173_0 (fun hl => by first | exact (by exact gC_3 (by omega) : _ = ((3 : Int), (dt 35 8).toNat)).trans (gB_no (by show ¬ ((3 : Int) = 0); omega)).symm | (exfalso; omega))
      refine go_retq PM32 (k := 1) (r := none) (w1 := (SH, dt174)) rfl ?_
      exact ⟨dt174, rfl, hI175, hF177, ⟨rfl, ⟨by exact PX_e X178 (by omega), by first | exact True.intro | assumption | rfl | omega | trivial, by first | exact True.intro | assumption | rfl | omega | trivial, by first | exact True.intro | assumption | rfl | omega | trivial, by first | exact True.intro | assumption | rfl | omega | trivial, by first | exact True.intro | assumption | rfl | omega | trivial⟩⟩⟩
theorem lv_all_X1_single_f : ∀ j : Nat, (∀ (L : Nat) (xs : Nat → Int32) (sio : Option Nat) (d : Nat) (dt : Nat → Nat → Int) (hI : InvC dt) (K V S : Nat → Int) (t : Nat) (hz : KZ K t) (ht : t ≤ 500) (p1 : Int) (h_p1 : 0 ≤ p1 ∧ p1 ≤ 8) (h_p0 : TKc K V S t dt) (h_p1 : 0 ≤ dt 35 8 ∧ dt 35 8 ≤ (t : Int)) (h_p2 : ¬ dt 35 2 = 0 → dt 35 8 = (t : Int)) (h_p3 : p1 + ((j : Nat) : Int) = 8) (h_p4 : 2 * j ≤ d), GO (am_XX L xs sio) (d + 3) 32 0 [some (.inr (.inr (some 35))), some (.inl p1), none, none] [] (SH, dt) (fun r w2 => ∃ dt2 : Nat → Nat → Int, w2 = (SH, dt2) ∧ InvC dt2 ∧ Fr [35, 42] dt dt2 ∧ ((r = none ∧ (SPX S t dt dt2 (gC K V j)) ∧ (0 ≤ dt2 35 8 ∧ dt2 35 8 ≤ (t : Int)) ∧ (¬ dt2 35 2 = 0 → dt2 35 8 = (t : Int)) ∧ (dt 35 8 ≤ dt2 35 8) ∧ (dt2 35 1 = dt 35 1) ∧ (dt2 35 7 = dt 35 7))))) ∧ (∀ (L : Nat) (xs : Nat → Int32) (sio : Option Nat) (d : Nat) (dt : Nat → Nat → Int) (hI : InvC dt) (K V S : Nat → Int) (t : Nat) (hz : KZ K t) (ht : t ≤ 500) (p1 : Int) (h_p1 : 0 ≤ p1 ∧ p1 ≤ 8) (h_p0 : TKc K V S t dt) (h_p1 : 0 ≤ dt 35 8 ∧ dt 35 8 ≤ (t : Int)) (h_p2 : ¬ dt 35 2 = 0 → dt 35 8 = (t : Int)) (h_p3 : p1 + ((j : Nat) : Int) = 8) (h_p4 : 2 * j ≤ d), GO (am_XX L xs sio) (d + 4) 31 0 [some (.inr (.inr (some 35))), some (.inl p1), none, none] [] (SH, dt) (fun r w2 => ∃ dt2 : Nat → Nat → Int, w2 = (SH, dt2) ∧ InvC dt2 ∧ Fr [35, 42] dt dt2 ∧ ((r = none ∧ (SPX S t dt dt2 (gB_ K V j)) ∧ (0 ≤ dt2 35 8 ∧ dt2 35 8 ≤ (t : Int)) ∧ (¬ dt2 35 2 = 0 → dt2 35 8 = (t : Int)) ∧ (dt 35 8 ≤ dt2 35 8) ∧ (dt2 35 1 = dt 35 1) ∧ (dt2 35 7 = dt 35 7)))))
  | 0 => by
    have g0 : ∀ (L : Nat) (xs : Nat → Int32) (sio : Option Nat) (d : Nat) (dt : Nat → Nat → Int) (hI : InvC dt) (K V S : Nat → Int) (t : Nat) (hz : KZ K t) (ht : t ≤ 500) (p1 : Int) (h_p1 : 0 ≤ p1 ∧ p1 ≤ 8) (h_p0 : TKc K V S t dt) (h_p1 : 0 ≤ dt 35 8 ∧ dt 35 8 ≤ (t : Int)) (h_p2 : ¬ dt 35 2 = 0 → dt 35 8 = (t : Int)) (h_p3 : p1 + ((0 : Nat) : Int) = 8) (h_p4 : 2 * 0 ≤ d), GO (am_XX L xs sio) (d + 3) 32 0 [some (.inr (.inr (some 35))), some (.inl p1), none, none] [] (SH, dt) (fun r w2 => ∃ dt2 : Nat → Nat → Int, w2 = (SH, dt2) ∧ InvC dt2 ∧ Fr [35, 42] dt dt2 ∧ ((r = none ∧ (SPX S t dt dt2 (gC K V 0)) ∧ (0 ≤ dt2 35 8 ∧ dt2 35 8 ≤ (t : Int)) ∧ (¬ dt2 35 2 = 0 → dt2 35 8 = (t : Int)) ∧ (dt 35 8 ≤ dt2 35 8) ∧ (dt2 35 1 = dt 35 1) ∧ (dt2 35 7 = dt 35 7)))) := by
      intro z0 z1 z2 z3 z4 z5 z6 z7 z8 z9 z10 z11 z12 z13 z14 z15 z16 z17 z18
      have e : z12 = 8 := by omega
      subst e
      exact sp_X1_single_8f z0 z1 z2 z3 z4 z5 z6 z7 z8 z9 z10 z11 z14 z15 z16
    have g1 : ∀ (L : Nat) (xs : Nat → Int32) (sio : Option Nat) (d : Nat) (dt : Nat → Nat → Int) (hI : InvC dt) (K V S : Nat → Int) (t : Nat) (hz : KZ K t) (ht : t ≤ 500) (p1 : Int) (h_p1 : 0 ≤ p1 ∧ p1 ≤ 8) (h_p0 : TKc K V S t dt) (h_p1 : 0 ≤ dt 35 8 ∧ dt 35 8 ≤ (t : Int)) (h_p2 : ¬ dt 35 2 = 0 → dt 35 8 = (t : Int)) (h_p3 : p1 + ((0 : Nat) : Int) = 8) (h_p4 : 2 * 0 ≤ d), GO (am_XX L xs sio) (d + 4) 31 0 [some (.inr (.inr (some 35))), some (.inl p1), none, none] [] (SH, dt) (fun r w2 => ∃ dt2 : Nat → Nat → Int, w2 = (SH, dt2) ∧ InvC dt2 ∧ Fr [35, 42] dt dt2 ∧ ((r = none ∧ (SPX S t dt dt2 (gB_ K V 0)) ∧ (0 ≤ dt2 35 8 ∧ dt2 35 8 ≤ (t : Int)) ∧ (¬ dt2 35 2 = 0 → dt2 35 8 = (t : Int)) ∧ (dt 35 8 ≤ dt2 35 8) ∧ (dt2 35 1 = dt 35 1) ∧ (dt2 35 7 = dt 35 7)))) := fun z0 z1 z2 z3 z4 z5 z6 z7 z8 z9 z10 z11 z12 z13 z14 z15 z16 z17 z18 => lv_X1_condition_f z0 z1 z2 z3 z4 z5 z6 z7 z8 z9 z10 z11 0 g0 z12 z13 z14 z15 z16 z17 z18
    exact ⟨g0, g1⟩
  | j + 1 => by
    obtain ⟨h_X1_single, h_X1_condition⟩ := lv_all_X1_single_f j
    have g0 : ∀ (L : Nat) (xs : Nat → Int32) (sio : Option Nat) (d : Nat) (dt : Nat → Nat → Int) (hI : InvC dt) (K V S : Nat → Int) (t : Nat) (hz : KZ K t) (ht : t ≤ 500) (p1 : Int) (h_p1 : 0 ≤ p1 ∧ p1 ≤ 8) (h_p0 : TKc K V S t dt) (h_p1 : 0 ≤ dt 35 8 ∧ dt 35 8 ≤ (t : Int)) (h_p2 : ¬ dt 35 2 = 0 → dt 35 8 = (t : Int)) (h_p3 : p1 + (((j + 1) : Nat) : Int) = 8) (h_p4 : 2 * (j + 1) ≤ d), GO (am_XX L xs sio) (d + 3) 32 0 [some (.inr (.inr (some 35))), some (.inl p1), none, none] [] (SH, dt) (fun r w2 => ∃ dt2 : Nat → Nat → Int, w2 = (SH, dt2) ∧ InvC dt2 ∧ Fr [35, 42] dt dt2 ∧ ((r = none ∧ (SPX S t dt dt2 (gC K V (j + 1))) ∧ (0 ≤ dt2 35 8 ∧ dt2 35 8 ≤ (t : Int)) ∧ (¬ dt2 35 2 = 0 → dt2 35 8 = (t : Int)) ∧ (dt 35 8 ≤ dt2 35 8) ∧ (dt2 35 1 = dt 35 1) ∧ (dt2 35 7 = dt 35 7)))) := by
      intro z0 z1 z2 z3 z4 z5 z6 z7 z8 z9 z10 z11 z12 z13 z14 z15 z16 z17 z18
      have y := lv_X1_single_f z0 z1 z2 (z3 - 2) z4 z5 z6 z7 z8 z9 z10 z11 j h_X1_single h_X1_condition z12 z13 z14 z15 z16 z17 (by omega)
      rw [show z3 - 2 + 5 = z3 + 3 by first | assumption | omega] at y
      exact y
    have g1 : ∀ (L : Nat) (xs : Nat → Int32) (sio : Option Nat) (d : Nat) (dt : Nat → Nat → Int) (hI : InvC dt) (K V S : Nat → Int) (t : Nat) (hz : KZ K t) (ht : t ≤ 500) (p1 : Int) (h_p1 : 0 ≤ p1 ∧ p1 ≤ 8) (h_p0 : TKc K V S t dt) (h_p1 : 0 ≤ dt 35 8 ∧ dt 35 8 ≤ (t : Int)) (h_p2 : ¬ dt 35 2 = 0 → dt 35 8 = (t : Int)) (h_p3 : p1 + (((j + 1) : Nat) : Int) = 8) (h_p4 : 2 * (j + 1) ≤ d), GO (am_XX L xs sio) (d + 4) 31 0 [some (.inr (.inr (some 35))), some (.inl p1), none, none] [] (SH, dt) (fun r w2 => ∃ dt2 : Nat → Nat → Int, w2 = (SH, dt2) ∧ InvC dt2 ∧ Fr [35, 42] dt dt2 ∧ ((r = none ∧ (SPX S t dt dt2 (gB_ K V (j + 1))) ∧ (0 ≤ dt2 35 8 ∧ dt2 35 8 ≤ (t : Int)) ∧ (¬ dt2 35 2 = 0 → dt2 35 8 = (t : Int)) ∧ (dt 35 8 ≤ dt2 35 8) ∧ (dt2 35 1 = dt 35 1) ∧ (dt2 35 7 = dt 35 7)))) := fun z0 z1 z2 z3 z4 z5 z6 z7 z8 z9 z10 z11 z12 z13 z14 z15 z16 z17 z18 => lv_X1_condition_f z0 z1 z2 z3 z4 z5 z6 z7 z8 z9 z10 z11 (j + 1) g0 z12 z13 z14 z15 z16 z17 z18
    exact ⟨g0, g1⟩
theorem sp_X1_condition_0f (L : Nat) (xs : Nat → Int32) (sio : Option Nat) (d : Nat) (dt : Nat → Nat → Int) (hI : InvC dt) (K V S : Nat → Int) (t : Nat) (hz : KZ K t) (ht : t ≤ 500) (h_p0 : TKc K V S t dt) (h_p1 : 0 ≤ dt 35 8 ∧ dt 35 8 ≤ (t : Int)) (h_p2 : ¬ dt 35 2 = 0 → dt 35 8 = (t : Int)) : GO (am_XX L xs sio) (d + 20) 31 0 [some (.inr (.inr (some 35))), some (.inl 0), none, none] [] (SH, dt) (fun r w2 => ∃ dt2 : Nat → Nat → Int, w2 = (SH, dt2) ∧ InvC dt2 ∧ Fr [35, 42] dt dt2 ∧ ((r = none ∧ (SPX S t dt dt2 (gB_ K V 8)) ∧ (0 ≤ dt2 35 8 ∧ dt2 35 8 ≤ (t : Int)) ∧ (¬ dt2 35 2 = 0 → dt2 35 8 = (t : Int)) ∧ (dt 35 8 ≤ dt2 35 8) ∧ (dt2 35 1 = dt 35 1) ∧ (dt2 35 7 = dt 35 7)))) := (lv_all_X1_single_f 8).2 L xs sio (d + 16) dt hI K V S t hz ht 0 ⟨by decide, by decide⟩ h_p0 h_p1 h_p2 (by omega) (by omega)
theorem sp_X1_readLine_f (L : Nat) (xs : Nat → Int32) (sio : Option Nat) (d : Nat) (dt : Nat → Nat → Int) (hI : InvC dt) (K V S : Nat → Int) (t : Nat) (hz : KZ K t) (ht : t ≤ 500) (p1 : Int) (h_p1 : 0 ≤ p1 ∧ p1 ≤ 60) (h_p0 : TKc K V S t dt) (h_p1 : 0 ≤ dt 35 8 ∧ dt 35 8 ≤ (t : Int)) (h_p2 : ¬ dt 35 2 = 0 → dt 35 8 = (t : Int)) (h_p3 : K (dt 35 8).toNat = 1000 ∨ K (dt 35 8).toNat = 1001) : GO (am_XX L xs sio) (d + 21) 29 0 [some (.inr (.inr (some 35))), some (.inl p1), none] [] (SH, dt) (fun r w2 => ∃ dt2 : Nat → Nat → Int, w2 = (SH, dt2) ∧ InvC dt2 ∧ Fr [35, 41, 42] dt dt2 ∧ ((r = none ∧ (SPX S t dt dt2 (gLine K V)) ∧ (0 ≤ dt2 35 8 ∧ dt2 35 8 ≤ (t : Int)) ∧ (¬ dt2 35 2 = 0 → dt2 35 8 = (t : Int)) ∧ (dt 35 8 ≤ dt2 35 8) ∧ (dt 35 8 + 1 ≤ dt2 35 8) ∧ (dt2 35 1 = dt 35 1) ∧ (dt2 35 7 = dt 35 7)))) := by
  have hF : Fr [35, 41, 42] dt dt := Fr_refl
  have h7 : dt 35 7 = (t : Int) + 1 := h_p0.1
  have hk0 := TKc_k h_p0 h_p1
  have hv0 := TKc_v h_p0 h_p1
  have hs0 := TKc_s h_p0 h_p1
  refine go_ifq PM29 (k := 1) (p1 := 15) (p2 := 4) (L' := [some (.inr (.inr (some 35))), some (.inl p1), none]) (st' := []) (w' := (SH, dt)) rfl (z_lt (a := p1) (by first | exact bnd h_p1 (by decide) (by decide) | exact ⟨by omega, by omega⟩)) (fun c1 => ?_) (fun c1 => ?_)
  · exfalso; omega
  · skip
    refine go_ifq PM29 (k := 6) (p1 := 16) (p2 := 15) (L' := [some (.inr (.inr (some 35))), some (.inl p1), none]) (st' := []) (w' := (SH, dt)) rfl (c_le (a := p1 + 4) (b := 64) (by first | exact bndp h_p1 (by decide) (by decide) | exact ⟨by omega, by omega⟩) ⟨by decide, by decide⟩) (fun c2 => ?_) (fun c2 => ?_)
    · skip
      refine go_toq PM29 (k := 1) (pc' := 17) (L' := [some (.inr (.inr (some 35))), some (.inl p1), none]) (st' := [.inr (.inr (some 35))]) (w' := (SH, dt)) rfl ?_
      refine go_callq PM29 PM20 (Q' := _) rfl rfl rfl rfl (sp_X1_token_f L xs sio (d + 20) dt hI K V S t hz ht  (by first | assumption | exact TKc_fr h_p0 hF (by decide) (by decide) (by decide) (by omega) | omega) (by first | assumption | exact TKc_fr h_p0 hF (by decide) (by decide) (by decide) (by omega) | omega) (by first | assumption | exact TKc_fr h_p0 hF (by decide) (by decide) (by decide) (by omega) | omega)) ?_
      rintro _ _ ⟨rfl, h3⟩
      refine ⟨rfl, ?_⟩
      rcases h3 with ⟨v_h3, rfl, h3r, h3⟩
      refine go_ifq PM29 (k := 1) (p1 := 30) (p2 := 26) (L' := [some (.inr (.inr (some 35))), some (.inl p1), none]) (st' := []) (w' := (SH, dt)) rfl (c_ne (a := v_h3) (b := 1001) (by first | exact bnd h3r (by decide) (by decide) | exact ⟨by omega, by omega⟩) ⟨by decide, by decide⟩) (fun c5 => ?_) (fun c5 => ?_)
      · skip
        refine go_toq PM29 (k := 7) (pc' := 39) (L' := [some (.inr (.inr (some 35))), some (.inl p1), some (.inl 0)]) (st' := [.inl ((dt 35 8) + 1), .inr (.inr (some 35))]) (w' := (SH, dt)) rfl ?_
        have hI6 : InvC (u2 dt 35 8 ((dt 35 8) + 1)) := InvC_u2 hI (lo := -2147483648) (hi := 2147483647) rfl rfl rfl (by omega) (by omega)
        have hF7 : Fr [35, 41, 42] dt (u2 dt 35 8 ((dt 35 8) + 1)) := Fr_u2 hF (by decide)
        have w8 : (u2 dt 35 8 ((dt 35 8) + 1)) 35 1 = dt 35 1 := rfl
        have w9 : (u2 dt 35 8 ((dt 35 8) + 1)) 35 2 = dt 35 2 := rfl
        have w10 : (u2 dt 35 8 ((dt 35 8) + 1)) 35 3 = dt 35 3 := rfl
        have w11 : (u2 dt 35 8 ((dt 35 8) + 1)) 35 7 = dt 35 7 := rfl
        have w12 : (u2 dt 35 8 ((dt 35 8) + 1)) 35 8 = (dt 35 8) + 1 := rfl
        have lv14 := KLIVE hz (D := dt) (by omega) (by omega) (by omega)
        have X13 : PX S t (gLine K V) (fun i => gB (gA K V 7 i) (gL1 K V)) dt (u2 dt 35 8 ((dt 35 8) + 1)) := PX_st PX_0 (SPX_inc hz (by omega) (by omega) (by omega) (by omega) (by omega)) (fun hl => by first | (show (gLine K V) (dt 35 8).toNat = (fun i => gB (gA K V 7 i) (gL1 K V)) ((dt 35 8).toNat + 1); exact gLine_r (by omega)) | (exfalso; omega))
        refine go_smpq PM29 (L' := [some (.inr (.inr (some 35))), some (.inl p1), some (.inl 0)]) (st' := []) (w' := (SH, (u2 dt 35 8 ((dt 35 8) + 1)))) rfl rfl (s_pf rfl rfl rfl rfl ⟨by omega, by omega⟩) ?_
        refine go_toq PM29 (k := 7) (pc' := 59) (L' := [some (.inr (.inr (some 35))), some (.inl p1), some (.inl 0)]) (st' := [.inl 8, .inr (.inr (some 35)), .inl p1, .inr (.inr (some 41))]) (w' := (SH, (u2 dt 35 8 ((dt 35 8) + 1)))) rfl ?_
        refine go_callq PM29 PM24 (Q' := _) rfl rfl rfl rfl (sp_X1_oneOf_f L xs sio (d + 19) (u2 dt 35 8 ((dt 35 8) + 1)) hI6 K V S t hz ht 8 ⟨by decide, by decide⟩ (by first | assumption | exact TKc_fr h_p0 hF7 (by decide) (by decide) (by decide) (by omega) | omega) (by first | assumption | exact TKc_fr h_p0 hF7 (by decide) (by decide) (by decide) (by omega) | omega) (by first | assumption | exact TKc_fr h_p0 hF7 (by decide) (by decide) (by decide) (by omega) | omega)) ?_
        rintro _ _ ⟨dt16, rfl, hI17, hF18, h15⟩
        refine ⟨rfl, ?_⟩
        have hF19 : Fr [35, 41, 42] dt dt16 := Fr_tr hF7 hF18 (by decide)
        rcases h15 with ⟨v_h15, rfl, h15r, h15⟩
        obtain ⟨h15_0, h15_1, h15_2, h15_3, h15_4, h15_5, h15_6, h15_7⟩ := h15
        have X20 : PX S t (gLine K V) (gL1 K V) dt dt16 := PX_st X13 h15_0 (fun hl => by first | exact rfl | (exfalso; omega))
        have hI21 : InvC (u2 dt16 41 (p1).toNat v_h15) := InvC_u2 hI17 (lo := -2147483648) (hi := 2147483647) rfl rfl rfl (by first | exact bnd1 h15r (by decide) | omega) (by first | exact bnd2 h15r (by decide) | omega)
        have hF22 : Fr [35, 41, 42] dt (u2 dt16 41 (p1).toNat v_h15) := Fr_u2 hF19 (by decide)
        have w23 : (u2 dt16 41 (p1).toNat v_h15) 35 1 = dt16 35 1 := rfl
        have w24 : (u2 dt16 41 (p1).toNat v_h15) 35 2 = dt16 35 2 := rfl
        have w25 : (u2 dt16 41 (p1).toNat v_h15) 35 3 = dt16 35 3 := rfl
        have w26 : (u2 dt16 41 (p1).toNat v_h15) 35 7 = dt16 35 7 := rfl
        have w27 : (u2 dt16 41 (p1).toNat v_h15) 35 8 = dt16 35 8 := rfl
        have X28 : PX S t (gLine K V) (gL1 K V) dt (u2 dt16 41 (p1).toNat v_h15) := PX_sm X20 rfl rfl rfl
        have kk29 : K ((u2 dt16 41 (p1).toNat v_h15) 35 8).toNat = K (dt16 35 8).toNat := rfl
        have kk30 : V ((u2 dt16 41 (p1).toNat v_h15) 35 8).toNat = V (dt16 35 8).toNat := rfl
        refine go_smpq PM29 (L' := [some (.inr (.inr (some 35))), some (.inl p1), some (.inl 0)]) (st' := []) (w' := (SH, (u2 dt16 41 (p1).toNat v_h15))) rfl rfl (s_iast (n := 64) rfl ⟨by omega, by omega⟩ ⟨by omega, by omega⟩) ?_
        have r31 : 0 ≤ dt16 35 12 ∧ dt16 35 12 ≤ 500 := InvC_get hI17 35 12 rfl rfl
        refine go_toq PM29 (k := 7) (pc' := 74) (L' := [some (.inr (.inr (some 35))), some (.inl p1), some (.inl 0)]) (st' := [.inl (dt16 35 12), .inl (p1 + 1), .inr (.inr (some 41))]) (w' := (SH, (u2 dt16 41 (p1).toNat v_h15))) rfl ?_
        have hI32 : InvC (u2 (u2 dt16 41 (p1).toNat v_h15) 41 ((p1 + 1).toNat) (dt16 35 12)) := InvC_u2 hI21 (lo := -2147483648) (hi := 2147483647) rfl rfl rfl (by first | exact bnd1 r31 (by decide) | omega) (by first | exact bnd2 r31 (by decide) | omega)
        have hF33 : Fr [35, 41, 42] dt (u2 (u2 dt16 41 (p1).toNat v_h15) 41 ((p1 + 1).toNat) (dt16 35 12)) := Fr_u2 hF22 (by decide)
        have w34 : (u2 (u2 dt16 41 (p1).toNat v_h15) 41 ((p1 + 1).toNat) (dt16 35 12)) 35 1 = (u2 dt16 41 (p1).toNat v_h15) 35 1 := rfl
        have w35 : (u2 (u2 dt16 41 (p1).toNat v_h15) 41 ((p1 + 1).toNat) (dt16 35 12)) 35 2 = (u2 dt16 41 (p1).toNat v_h15) 35 2 := rfl
        have w36 : (u2 (u2 dt16 41 (p1).toNat v_h15) 41 ((p1 + 1).toNat) (dt16 35 12)) 35 3 = (u2 dt16 41 (p1).toNat v_h15) 35 3 := rfl
        have w37 : (u2 (u2 dt16 41 (p1).toNat v_h15) 41 ((p1 + 1).toNat) (dt16 35 12)) 35 7 = (u2 dt16 41 (p1).toNat v_h15) 35 7 := rfl
        have w38 : (u2 (u2 dt16 41 (p1).toNat v_h15) 41 ((p1 + 1).toNat) (dt16 35 12)) 35 8 = (u2 dt16 41 (p1).toNat v_h15) 35 8 := rfl
        have X39 : PX S t (gLine K V) (gL1 K V) dt (u2 (u2 dt16 41 (p1).toNat v_h15) 41 ((p1 + 1).toNat) (dt16 35 12)) := PX_sm X28 rfl rfl rfl
        have kk40 : K ((u2 (u2 dt16 41 (p1).toNat v_h15) 41 ((p1 + 1).toNat) (dt16 35 12)) 35 8).toNat = K ((u2 dt16 41 (p1).toNat v_h15) 35 8).toNat := rfl
        have kk41 : V ((u2 (u2 dt16 41 (p1).toNat v_h15) 41 ((p1 + 1).toNat) (dt16 35 12)) 35 8).toNat = V ((u2 dt16 41 (p1).toNat v_h15) 35 8).toNat := rfl
        refine go_smpq PM29 (L' := [some (.inr (.inr (some 35))), some (.inl p1), some (.inl 0)]) (st' := []) (w' := (SH, (u2 (u2 dt16 41 (p1).toNat v_h15) 41 ((p1 + 1).toNat) (dt16 35 12)))) rfl rfl (s_iast (n := 64) rfl ⟨by omega, by omega⟩ (by first | exact bnd r31 (by decide) (by decide) | exact ⟨by omega, by omega⟩)) ?_
        refine go_toq PM29 (k := 1) (pc' := 76) (L' := [some (.inr (.inr (some 35))), some (.inl p1), some (.inl 0)]) (st' := [.inr (.inr (some 35))]) (w' := (SH, (u2 (u2 dt16 41 (p1).toNat v_h15) 41 ((p1 + 1).toNat) (dt16 35 12)))) rfl ?_
        refine go_callq PM29 PM33 (Q' := _) rfl rfl rfl rfl (sp_X1_sum_f L xs sio (d + 18) (u2 (u2 dt16 41 (p1).toNat v_h15) 41 ((p1 + 1).toNat) (dt16 35 12)) hI32 K V S t hz ht  (by first | assumption | exact TKc_fr h_p0 hF33 (by decide) (by decide) (by decide) (by omega) | omega) (by first | assumption | exact TKc_fr h_p0 hF33 (by decide) (by decide) (by decide) (by omega) | omega) (by first | assumption | exact TKc_fr h_p0 hF33 (by decide) (by decide) (by decide) (by omega) | omega)) ?_
        rintro _ _ ⟨dt43, rfl, hI44, hF45, h42⟩
        refine ⟨rfl, ?_⟩
        have hF46 : Fr [35, 41, 42] dt dt43 := Fr_tr hF33 hF45 (by decide)
        rcases h42 with ⟨rfl, h42⟩
        obtain ⟨h42_0, h42_1, h42_2, h42_3, h42_4, h42_5⟩ := h42
        have X47 : PX S t (gLine K V) (gL2 K V) dt dt43 := PX_st X39 h42_0 (fun hl => by first | exact rfl | (exfalso; omega))
        have r48 : 0 ≤ dt43 35 12 ∧ dt43 35 12 ≤ 500 := InvC_get hI44 35 12 rfl rfl
        refine go_toq PM29 (k := 7) (pc' := 90) (L' := [some (.inr (.inr (some 35))), some (.inl p1), some (.inl 0)]) (st' := [.inl (dt43 35 12), .inl (p1 + 2), .inr (.inr (some 41))]) (w' := (SH, dt43)) rfl ?_
        have hI49 : InvC (u2 dt43 41 ((p1 + 2).toNat) (dt43 35 12)) := InvC_u2 hI44 (lo := -2147483648) (hi := 2147483647) rfl rfl rfl (by first | exact bnd1 r48 (by decide) | omega) (by first | exact bnd2 r48 (by decide) | omega)
        have hF50 : Fr [35, 41, 42] dt (u2 dt43 41 ((p1 + 2).toNat) (dt43 35 12)) := Fr_u2 hF46 (by decide)
        have w51 : (u2 dt43 41 ((p1 + 2).toNat) (dt43 35 12)) 35 1 = dt43 35 1 := rfl
        have w52 : (u2 dt43 41 ((p1 + 2).toNat) (dt43 35 12)) 35 2 = dt43 35 2 := rfl
        have w53 : (u2 dt43 41 ((p1 + 2).toNat) (dt43 35 12)) 35 3 = dt43 35 3 := rfl
        have w54 : (u2 dt43 41 ((p1 + 2).toNat) (dt43 35 12)) 35 7 = dt43 35 7 := rfl
        have w55 : (u2 dt43 41 ((p1 + 2).toNat) (dt43 35 12)) 35 8 = dt43 35 8 := rfl
        have X56 : PX S t (gLine K V) (gL2 K V) dt (u2 dt43 41 ((p1 + 2).toNat) (dt43 35 12)) := PX_sm X47 rfl rfl rfl
        have kk57 : K ((u2 dt43 41 ((p1 + 2).toNat) (dt43 35 12)) 35 8).toNat = K (dt43 35 8).toNat := rfl
        have kk58 : V ((u2 dt43 41 ((p1 + 2).toNat) (dt43 35 12)) 35 8).toNat = V (dt43 35 8).toNat := rfl
        refine go_smpq PM29 (L' := [some (.inr (.inr (some 35))), some (.inl p1), some (.inl 0)]) (st' := []) (w' := (SH, (u2 dt43 41 ((p1 + 2).toNat) (dt43 35 12)))) rfl rfl (s_iast (n := 64) rfl ⟨by omega, by omega⟩ (by first | exact bnd r48 (by decide) (by decide) | exact ⟨by omega, by omega⟩)) ?_
        refine go_toq PM29 (k := 1) (pc' := 92) (L' := [some (.inr (.inr (some 35))), some (.inl p1), some (.inl 0)]) (st' := [.inr (.inr (some 35))]) (w' := (SH, (u2 dt43 41 ((p1 + 2).toNat) (dt43 35 12)))) rfl ?_
        refine go_callq PM29 PM20 (Q' := _) rfl rfl rfl rfl (sp_X1_token_f L xs sio (d + 20) (u2 dt43 41 ((p1 + 2).toNat) (dt43 35 12)) hI49 K V S t hz ht  (by first | assumption | exact TKc_fr h_p0 hF50 (by decide) (by decide) (by decide) (by omega) | omega) (by first | assumption | exact TKc_fr h_p0 hF50 (by decide) (by decide) (by decide) (by omega) | omega) (by first | assumption | exact TKc_fr h_p0 hF50 (by decide) (by decide) (by decide) (by omega) | omega)) ?_
        rintro _ _ ⟨rfl, h59⟩
        refine ⟨rfl, ?_⟩
        rcases h59 with ⟨v_h59, rfl, h59r, h59⟩
        refine go_ifq PM29 (k := 1) (p1 := 116) (p2 := 101) (L' := [some (.inr (.inr (some 35))), some (.inl p1), some (.inl 0)]) (st' := []) (w' := (SH, (u2 dt43 41 ((p1 + 2).toNat) (dt43 35 12)))) rfl (c_ne (a := v_h59) (b := 1002) (by first | exact bnd h59r (by decide) (by decide) | exact ⟨by omega, by omega⟩) ⟨by decide, by decide⟩) (fun c61 => ?_) (fun c61 => ?_)
        · skip
          refine go_toq PM29 (k := 7) (pc' := 127) (L' := [some (.inr (.inr (some 35))), some (.inl p1), some (.inl 0)]) (st' := [.inl (dt43 35 12), .inl (p1 + 3), .inr (.inr (some 41))]) (w' := (SH, (u2 dt43 41 ((p1 + 2).toNat) (dt43 35 12)))) rfl ?_
          have hI62 : InvC (u2 (u2 dt43 41 ((p1 + 2).toNat) (dt43 35 12)) 41 ((p1 + 3).toNat) (dt43 35 12)) := InvC_u2 hI49 (lo := -2147483648) (hi := 2147483647) rfl rfl rfl (by first | exact bnd1 r48 (by decide) | omega) (by first | exact bnd2 r48 (by decide) | omega)
          have hF63 : Fr [35, 41, 42] dt (u2 (u2 dt43 41 ((p1 + 2).toNat) (dt43 35 12)) 41 ((p1 + 3).toNat) (dt43 35 12)) := Fr_u2 hF50 (by decide)
          have w64 : (u2 (u2 dt43 41 ((p1 + 2).toNat) (dt43 35 12)) 41 ((p1 + 3).toNat) (dt43 35 12)) 35 1 = (u2 dt43 41 ((p1 + 2).toNat) (dt43 35 12)) 35 1 := rfl
          have w65 : (u2 (u2 dt43 41 ((p1 + 2).toNat) (dt43 35 12)) 41 ((p1 + 3).toNat) (dt43 35 12)) 35 2 = (u2 dt43 41 ((p1 + 2).toNat) (dt43 35 12)) 35 2 := rfl
          have w66 : (u2 (u2 dt43 41 ((p1 + 2).toNat) (dt43 35 12)) 41 ((p1 + 3).toNat) (dt43 35 12)) 35 3 = (u2 dt43 41 ((p1 + 2).toNat) (dt43 35 12)) 35 3 := rfl
          have w67 : (u2 (u2 dt43 41 ((p1 + 2).toNat) (dt43 35 12)) 41 ((p1 + 3).toNat) (dt43 35 12)) 35 7 = (u2 dt43 41 ((p1 + 2).toNat) (dt43 35 12)) 35 7 := rfl
          have w68 : (u2 (u2 dt43 41 ((p1 + 2).toNat) (dt43 35 12)) 41 ((p1 + 3).toNat) (dt43 35 12)) 35 8 = (u2 dt43 41 ((p1 + 2).toNat) (dt43 35 12)) 35 8 := rfl
          have X69 : PX S t (gLine K V) (gL2 K V) dt (u2 (u2 dt43 41 ((p1 + 2).toNat) (dt43 35 12)) 41 ((p1 + 3).toNat) (dt43 35 12)) := PX_sm X56 rfl rfl rfl
          have kk70 : K ((u2 (u2 dt43 41 ((p1 + 2).toNat) (dt43 35 12)) 41 ((p1 + 3).toNat) (dt43 35 12)) 35 8).toNat = K ((u2 dt43 41 ((p1 + 2).toNat) (dt43 35 12)) 35 8).toNat := rfl
          have kk71 : V ((u2 (u2 dt43 41 ((p1 + 2).toNat) (dt43 35 12)) 41 ((p1 + 3).toNat) (dt43 35 12)) 35 8).toNat = V ((u2 dt43 41 ((p1 + 2).toNat) (dt43 35 12)) 35 8).toNat := rfl
          refine go_smpq PM29 (L' := [some (.inr (.inr (some 35))), some (.inl p1), some (.inl 0)]) (st' := []) (w' := (SH, (u2 (u2 dt43 41 ((p1 + 2).toNat) (dt43 35 12)) 41 ((p1 + 3).toNat) (dt43 35 12)))) rfl rfl (s_iast (n := 64) rfl ⟨by omega, by omega⟩ (by first | exact bnd r48 (by decide) (by decide) | exact ⟨by omega, by omega⟩)) ?_
          refine go_toq PM29 (k := 2) (pc' := 131) (L' := [some (.inr (.inr (some 35))), some (.inl p1), some (.inl 0)]) (st' := [.inl 59, .inr (.inr (some 35))]) (w' := (SH, (u2 (u2 dt43 41 ((p1 + 2).toNat) (dt43 35 12)) 41 ((p1 + 3).toNat) (dt43 35 12)))) rfl ?_
          refine go_callq PM29 PM22 (Q' := _) rfl rfl rfl rfl (sp_X1_skip_f L xs sio (d + 19) (u2 (u2 dt43 41 ((p1 + 2).toNat) (dt43 35 12)) 41 ((p1 + 3).toNat) (dt43 35 12)) hI62 K V S t hz ht 59 ⟨by decide, by decide⟩ (by first | assumption | exact TKc_fr h_p0 hF63 (by decide) (by decide) (by decide) (by omega) | omega) (by first | assumption | exact TKc_fr h_p0 hF63 (by decide) (by decide) (by decide) (by omega) | omega) (by first | assumption | exact TKc_fr h_p0 hF63 (by decide) (by decide) (by decide) (by omega) | omega)) ?_
          rintro _ _ ⟨dt73, rfl, hI74, hF75, h72⟩
          refine ⟨rfl, ?_⟩
          have hF76 : Fr [35, 41, 42] dt dt73 := Fr_tr hF63 hF75 (by decide)
          rcases h72 with ⟨rfl, h72⟩
          obtain ⟨h72_0, h72_1, h72_2, h72_3, h72_4, h72_5⟩ := h72
          have X77 : PX S t (gLine K V) gOk dt dt73 := PX_st X69 h72_0 (fun hl => by first | (exact gL2_n (by omega)) | (exfalso; omega))
          refine go_retq PM29 (k := 0) (r := none) (w1 := (SH, dt73)) rfl ?_
          exact ⟨dt73, rfl, hI74, hF76, ⟨rfl, ⟨by exact PX_e X77 (by omega), by first | exact True.intro | assumption | rfl | omega | trivial, by first | exact True.intro | assumption | rfl | omega | trivial, by first | exact True.intro | assumption | rfl | omega | trivial, by first | exact True.intro | assumption | rfl | omega | trivial, by first | exact True.intro | assumption | rfl | omega | trivial, by first | exact True.intro | assumption | rfl | omega | trivial⟩⟩⟩
        · skip
          refine go_toq PM29 (k := 5) (pc' := 108) (L' := [some (.inr (.inr (some 35))), some (.inl p1), some (.inl 0)]) (st' := [.inl ((dt43 35 8) + 1), .inr (.inr (some 35))]) (w' := (SH, (u2 dt43 41 ((p1 + 2).toNat) (dt43 35 12)))) rfl ?_
          have hI78 : InvC (u2 (u2 dt43 41 ((p1 + 2).toNat) (dt43 35 12)) 35 8 ((dt43 35 8) + 1)) := InvC_u2 hI49 (lo := -2147483648) (hi := 2147483647) rfl rfl rfl (by omega) (by omega)
          have hF79 : Fr [35, 41, 42] dt (u2 (u2 dt43 41 ((p1 + 2).toNat) (dt43 35 12)) 35 8 ((dt43 35 8) + 1)) := Fr_u2 hF50 (by decide)
          have w80 : (u2 (u2 dt43 41 ((p1 + 2).toNat) (dt43 35 12)) 35 8 ((dt43 35 8) + 1)) 35 1 = (u2 dt43 41 ((p1 + 2).toNat) (dt43 35 12)) 35 1 := rfl
          have w81 : (u2 (u2 dt43 41 ((p1 + 2).toNat) (dt43 35 12)) 35 8 ((dt43 35 8) + 1)) 35 2 = (u2 dt43 41 ((p1 + 2).toNat) (dt43 35 12)) 35 2 := rfl
          have w82 : (u2 (u2 dt43 41 ((p1 + 2).toNat) (dt43 35 12)) 35 8 ((dt43 35 8) + 1)) 35 3 = (u2 dt43 41 ((p1 + 2).toNat) (dt43 35 12)) 35 3 := rfl
          have w83 : (u2 (u2 dt43 41 ((p1 + 2).toNat) (dt43 35 12)) 35 8 ((dt43 35 8) + 1)) 35 7 = (u2 dt43 41 ((p1 + 2).toNat) (dt43 35 12)) 35 7 := rfl
          have w84 : (u2 (u2 dt43 41 ((p1 + 2).toNat) (dt43 35 12)) 35 8 ((dt43 35 8) + 1)) 35 8 = (dt43 35 8) + 1 := rfl
          have lv86 := KLIVE hz (D := (u2 dt43 41 ((p1 + 2).toNat) (dt43 35 12))) (by omega) (by omega) (by omega)
          have X85 : PX S t (gLine K V) (fun i => gB (gB_ K V 8 i) (gK K 59)) dt (u2 (u2 dt43 41 ((p1 + 2).toNat) (dt43 35 12)) 35 8 ((dt43 35 8) + 1)) := PX_st X56 (SPX_inc hz (by omega) (by omega) (by omega) (by omega) (by omega)) (fun hl => by first | (show (gL2 K V) ((u2 dt43 41 ((p1 + 2).toNat) (dt43 35 12)) 35 8).toNat = (fun i => gB (gB_ K V 8 i) (gK K 59)) (((u2 dt43 41 ((p1 + 2).toNat) (dt43 35 12)) 35 8).toNat + 1); exact gL2_w (by omega)) | (exfalso; omega))
          refine go_smpq PM29 (L' := [some (.inr (.inr (some 35))), some (.inl p1), some (.inl 0)]) (st' := []) (w' := (SH, (u2 (u2 dt43 41 ((p1 + 2).toNat) (dt43 35 12)) 35 8 ((dt43 35 8) + 1)))) rfl rfl (s_pf rfl rfl rfl rfl ⟨by omega, by omega⟩) ?_
          refine go_toq PM29 (k := 2) (pc' := 113) (L' := [some (.inr (.inr (some 35))), some (.inl p1), some (.inl 0)]) (st' := [.inl 0, .inr (.inr (some 35))]) (w' := (SH, (u2 (u2 dt43 41 ((p1 + 2).toNat) (dt43 35 12)) 35 8 ((dt43 35 8) + 1)))) rfl ?_
          refine go_callq PM29 PM31 (Q' := _) rfl rfl rfl rfl (sp_X1_condition_0f L xs sio (d + 0) (u2 (u2 dt43 41 ((p1 + 2).toNat) (dt43 35 12)) 35 8 ((dt43 35 8) + 1)) hI78 K V S t hz ht  (by first | assumption | exact TKc_fr h_p0 hF79 (by decide) (by decide) (by decide) (by omega) | omega) (by first | assumption | exact TKc_fr h_p0 hF79 (by decide) (by decide) (by decide) (by omega) | omega) (by first | assumption | exact TKc_fr h_p0 hF79 (by decide) (by decide) (by decide) (by omega) | omega)) ?_
          rintro _ _ ⟨dt88, rfl, hI89, hF90, h87⟩
          refine ⟨rfl, ?_⟩
          have hF91 : Fr [35, 41, 42] dt dt88 := Fr_tr hF79 hF90 (by decide)
          rcases h87 with ⟨rfl, h87⟩
          obtain ⟨h87_0, h87_1, h87_2, h87_3, h87_4, h87_5⟩ := h87
          have X92 : PX S t (gLine K V) (gK K 59) dt dt88 := PX_st X85 h87_0 (fun hl => by first | exact rfl | (exfalso; omega))
          have r93 : 0 ≤ dt88 35 12 ∧ dt88 35 12 ≤ 500 := InvC_get hI89 35 12 rfl rfl
          refine go_toq PM29 (k := 7) (pc' := 127) (L' := [some (.inr (.inr (some 35))), some (.inl p1), some (.inl 0)]) (st' := [.inl (dt88 35 12), .inl (p1 + 3), .inr (.inr (some 41))]) (w' := (SH, dt88)) rfl ?_
          have hI94 : InvC (u2 dt88 41 ((p1 + 3).toNat) (dt88 35 12)) := InvC_u2 hI89 (lo := -2147483648) (hi := 2147483647) rfl rfl rfl (by first | exact bnd1 r93 (by decide) | omega) (by first | exact bnd2 r93 (by decide) | omega)
          have hF95 : Fr [35, 41, 42] dt (u2 dt88 41 ((p1 + 3).toNat) (dt88 35 12)) := Fr_u2 hF91 (by decide)
          have w96 : (u2 dt88 41 ((p1 + 3).toNat) (dt88 35 12)) 35 1 = dt88 35 1 := rfl
          have w97 : (u2 dt88 41 ((p1 + 3).toNat) (dt88 35 12)) 35 2 = dt88 35 2 := rfl
          have w98 : (u2 dt88 41 ((p1 + 3).toNat) (dt88 35 12)) 35 3 = dt88 35 3 := rfl
          have w99 : (u2 dt88 41 ((p1 + 3).toNat) (dt88 35 12)) 35 7 = dt88 35 7 := rfl
          have w100 : (u2 dt88 41 ((p1 + 3).toNat) (dt88 35 12)) 35 8 = dt88 35 8 := rfl
          have X101 : PX S t (gLine K V) (gK K 59) dt (u2 dt88 41 ((p1 + 3).toNat) (dt88 35 12)) := PX_sm X92 rfl rfl rfl
          have kk102 : K ((u2 dt88 41 ((p1 + 3).toNat) (dt88 35 12)) 35 8).toNat = K (dt88 35 8).toNat := rfl
          have kk103 : V ((u2 dt88 41 ((p1 + 3).toNat) (dt88 35 12)) 35 8).toNat = V (dt88 35 8).toNat := rfl
          refine go_smpq PM29 (L' := [some (.inr (.inr (some 35))), some (.inl p1), some (.inl 0)]) (st' := []) (w' := (SH, (u2 dt88 41 ((p1 + 3).toNat) (dt88 35 12)))) rfl rfl (s_iast (n := 64) rfl ⟨by omega, by omega⟩ (by first | exact bnd r93 (by decide) (by decide) | exact ⟨by omega, by omega⟩)) ?_
          refine go_toq PM29 (k := 2) (pc' := 131) (L' := [some (.inr (.inr (some 35))), some (.inl p1), some (.inl 0)]) (st' := [.inl 59, .inr (.inr (some 35))]) (w' := (SH, (u2 dt88 41 ((p1 + 3).toNat) (dt88 35 12)))) rfl ?_
          refine go_callq PM29 PM22 (Q' := _) rfl rfl rfl rfl (sp_X1_skip_f L xs sio (d + 19) (u2 dt88 41 ((p1 + 3).toNat) (dt88 35 12)) hI94 K V S t hz ht 59 ⟨by decide, by decide⟩ (by first | assumption | exact TKc_fr h_p0 hF95 (by decide) (by decide) (by decide) (by omega) | omega) (by first | assumption | exact TKc_fr h_p0 hF95 (by decide) (by decide) (by decide) (by omega) | omega) (by first | assumption | exact TKc_fr h_p0 hF95 (by decide) (by decide) (by decide) (by omega) | omega)) ?_
          rintro _ _ ⟨dt105, rfl, hI106, hF107, h104⟩
          refine ⟨rfl, ?_⟩
          have hF108 : Fr [35, 41, 42] dt dt105 := Fr_tr hF95 hF107 (by decide)
          rcases h104 with ⟨rfl, h104⟩
          obtain ⟨h104_0, h104_1, h104_2, h104_3, h104_4, h104_5⟩ := h104
          have X109 : PX S t (gLine K V) gOk dt dt105 := PX_st X101 h104_0 (fun hl => by first | exact gB_id.symm | (exfalso; omega))
          refine go_retq PM29 (k := 0) (r := none) (w1 := (SH, dt105)) rfl ?_
          exact ⟨dt105, rfl, hI106, hF108, ⟨rfl, ⟨by exact PX_e X109 (by omega), by first | exact True.intro | assumption | rfl | omega | trivial, by first | exact True.intro | assumption | rfl | omega | trivial, by first | exact True.intro | assumption | rfl | omega | trivial, by first | exact True.intro | assumption | rfl | omega | trivial, by first | exact True.intro | assumption | rfl | omega | trivial, by first | exact True.intro | assumption | rfl | omega | trivial⟩⟩⟩
      · skip
        refine go_toq PM29 (k := 8) (pc' := 39) (L' := [some (.inr (.inr (some 35))), some (.inl p1), some (.inl 1)]) (st' := [.inl ((dt 35 8) + 1), .inr (.inr (some 35))]) (w' := (SH, dt)) rfl ?_
        have hI110 : InvC (u2 dt 35 8 ((dt 35 8) + 1)) := InvC_u2 hI (lo := -2147483648) (hi := 2147483647) rfl rfl rfl (by omega) (by omega)
        have hF111 : Fr [35, 41, 42] dt (u2 dt 35 8 ((dt 35 8) + 1)) := Fr_u2 hF (by decide)
        have w112 : (u2 dt 35 8 ((dt 35 8) + 1)) 35 1 = dt 35 1 := rfl
        have w113 : (u2 dt 35 8 ((dt 35 8) + 1)) 35 2 = dt 35 2 := rfl
        have w114 : (u2 dt 35 8 ((dt 35 8) + 1)) 35 3 = dt 35 3 := rfl
        have w115 : (u2 dt 35 8 ((dt 35 8) + 1)) 35 7 = dt 35 7 := rfl
        have w116 : (u2 dt 35 8 ((dt 35 8) + 1)) 35 8 = (dt 35 8) + 1 := rfl
        have lv118 := KLIVE hz (D := dt) (by omega) (by omega) (by omega)
        have X117 : PX S t (gLine K V) (gL1 K V) dt (u2 dt 35 8 ((dt 35 8) + 1)) := PX_st PX_0 (SPX_inc hz (by omega) (by omega) (by omega) (by omega) (by omega)) (fun hl => by first | (show (gLine K V) (dt 35 8).toNat = (gL1 K V) ((dt 35 8).toNat + 1); exact gLine_p (by omega)) | (exfalso; omega))
        refine go_smpq PM29 (L' := [some (.inr (.inr (some 35))), some (.inl p1), some (.inl 1)]) (st' := []) (w' := (SH, (u2 dt 35 8 ((dt 35 8) + 1)))) rfl rfl (s_pf rfl rfl rfl rfl ⟨by omega, by omega⟩) ?_
        refine go_toq PM29 (k := 7) (pc' := 62) (L' := [some (.inr (.inr (some 35))), some (.inl p1), some (.inl 1)]) (st' := [.inl 8, .inl p1, .inr (.inr (some 41))]) (w' := (SH, (u2 dt 35 8 ((dt 35 8) + 1)))) rfl ?_
        have hI119 : InvC (u2 (u2 dt 35 8 ((dt 35 8) + 1)) 41 (p1).toNat 8) := InvC_u2 hI110 (lo := -2147483648) (hi := 2147483647) rfl rfl rfl (by decide) (by decide)
        have hF120 : Fr [35, 41, 42] dt (u2 (u2 dt 35 8 ((dt 35 8) + 1)) 41 (p1).toNat 8) := Fr_u2 hF111 (by decide)
        have w121 : (u2 (u2 dt 35 8 ((dt 35 8) + 1)) 41 (p1).toNat 8) 35 1 = (u2 dt 35 8 ((dt 35 8) + 1)) 35 1 := rfl
        have w122 : (u2 (u2 dt 35 8 ((dt 35 8) + 1)) 41 (p1).toNat 8) 35 2 = (u2 dt 35 8 ((dt 35 8) + 1)) 35 2 := rfl
        have w123 : (u2 (u2 dt 35 8 ((dt 35 8) + 1)) 41 (p1).toNat 8) 35 3 = (u2 dt 35 8 ((dt 35 8) + 1)) 35 3 := rfl
        have w124 : (u2 (u2 dt 35 8 ((dt 35 8) + 1)) 41 (p1).toNat 8) 35 7 = (u2 dt 35 8 ((dt 35 8) + 1)) 35 7 := rfl
        have w125 : (u2 (u2 dt 35 8 ((dt 35 8) + 1)) 41 (p1).toNat 8) 35 8 = (u2 dt 35 8 ((dt 35 8) + 1)) 35 8 := rfl
        have X126 : PX S t (gLine K V) (gL1 K V) dt (u2 (u2 dt 35 8 ((dt 35 8) + 1)) 41 (p1).toNat 8) := PX_sm X117 rfl rfl rfl
        have kk127 : K ((u2 (u2 dt 35 8 ((dt 35 8) + 1)) 41 (p1).toNat 8) 35 8).toNat = K ((u2 dt 35 8 ((dt 35 8) + 1)) 35 8).toNat := rfl
        have kk128 : V ((u2 (u2 dt 35 8 ((dt 35 8) + 1)) 41 (p1).toNat 8) 35 8).toNat = V ((u2 dt 35 8 ((dt 35 8) + 1)) 35 8).toNat := rfl
        refine go_smpq PM29 (L' := [some (.inr (.inr (some 35))), some (.inl p1), some (.inl 1)]) (st' := []) (w' := (SH, (u2 (u2 dt 35 8 ((dt 35 8) + 1)) 41 (p1).toNat 8))) rfl rfl (s_iast (n := 64) rfl (by first | exact bndx h_p1 (by decide) (by decide) | exact ⟨by omega, by omega⟩) ⟨by decide, by decide⟩) ?_
        have r129 : 0 ≤ dt 35 12 ∧ dt 35 12 ≤ 500 := InvC_get hI 35 12 rfl rfl
        refine go_toq PM29 (k := 7) (pc' := 74) (L' := [some (.inr (.inr (some 35))), some (.inl p1), some (.inl 1)]) (st' := [.inl (dt 35 12), .inl (p1 + 1), .inr (.inr (some 41))]) (w' := (SH, (u2 (u2 dt 35 8 ((dt 35 8) + 1)) 41 (p1).toNat 8))) rfl ?_
        have hI130 : InvC (u2 (u2 (u2 dt 35 8 ((dt 35 8) + 1)) 41 (p1).toNat 8) 41 ((p1 + 1).toNat) (dt 35 12)) := InvC_u2 hI119 (lo := -2147483648) (hi := 2147483647) rfl rfl rfl (by first | exact bnd1 r129 (by decide) | omega) (by first | exact bnd2 r129 (by decide) | omega)
        have hF131 : Fr [35, 41, 42] dt (u2 (u2 (u2 dt 35 8 ((dt 35 8) + 1)) 41 (p1).toNat 8) 41 ((p1 + 1).toNat) (dt 35 12)) := Fr_u2 hF120 (by decide)
        have w132 : (u2 (u2 (u2 dt 35 8 ((dt 35 8) + 1)) 41 (p1).toNat 8) 41 ((p1 + 1).toNat) (dt 35 12)) 35 1 = (u2 (u2 dt 35 8 ((dt 35 8) + 1)) 41 (p1).toNat 8) 35 1 := rfl
        have w133 : (u2 (u2 (u2 dt 35 8 ((dt 35 8) + 1)) 41 (p1).toNat 8) 41 ((p1 + 1).toNat) (dt 35 12)) 35 2 = (u2 (u2 dt 35 8 ((dt 35 8) + 1)) 41 (p1).toNat 8) 35 2 := rfl
        have w134 : (u2 (u2 (u2 dt 35 8 ((dt 35 8) + 1)) 41 (p1).toNat 8) 41 ((p1 + 1).toNat) (dt 35 12)) 35 3 = (u2 (u2 dt 35 8 ((dt 35 8) + 1)) 41 (p1).toNat 8) 35 3 := rfl
        have w135 : (u2 (u2 (u2 dt 35 8 ((dt 35 8) + 1)) 41 (p1).toNat 8) 41 ((p1 + 1).toNat) (dt 35 12)) 35 7 = (u2 (u2 dt 35 8 ((dt 35 8) + 1)) 41 (p1).toNat 8) 35 7 := rfl
        have w136 : (u2 (u2 (u2 dt 35 8 ((dt 35 8) + 1)) 41 (p1).toNat 8) 41 ((p1 + 1).toNat) (dt 35 12)) 35 8 = (u2 (u2 dt 35 8 ((dt 35 8) + 1)) 41 (p1).toNat 8) 35 8 := rfl
        have X137 : PX S t (gLine K V) (gL1 K V) dt (u2 (u2 (u2 dt 35 8 ((dt 35 8) + 1)) 41 (p1).toNat 8) 41 ((p1 + 1).toNat) (dt 35 12)) := PX_sm X126 rfl rfl rfl
        have kk138 : K ((u2 (u2 (u2 dt 35 8 ((dt 35 8) + 1)) 41 (p1).toNat 8) 41 ((p1 + 1).toNat) (dt 35 12)) 35 8).toNat = K ((u2 (u2 dt 35 8 ((dt 35 8) + 1)) 41 (p1).toNat 8) 35 8).toNat := rfl
        have kk139 : V ((u2 (u2 (u2 dt 35 8 ((dt 35 8) + 1)) 41 (p1).toNat 8) 41 ((p1 + 1).toNat) (dt 35 12)) 35 8).toNat = V ((u2 (u2 dt 35 8 ((dt 35 8) + 1)) 41 (p1).toNat 8) 35 8).toNat := rfl
        refine go_smpq PM29 (L' := [some (.inr (.inr (some 35))), some (.inl p1), some (.inl 1)]) (st' := []) (w' := (SH, (u2 (u2 (u2 dt 35 8 ((dt 35 8) + 1)) 41 (p1).toNat 8) 41 ((p1 + 1).toNat) (dt 35 12)))) rfl rfl (s_iast (n := 64) rfl ⟨by omega, by omega⟩ (by first | exact bnd r129 (by decide) (by decide) | exact ⟨by omega, by omega⟩)) ?_
        refine go_toq PM29 (k := 1) (pc' := 76) (L' := [some (.inr (.inr (some 35))), some (.inl p1), some (.inl 1)]) (st' := [.inr (.inr (some 35))]) (w' := (SH, (u2 (u2 (u2 dt 35 8 ((dt 35 8) + 1)) 41 (p1).toNat 8) 41 ((p1 + 1).toNat) (dt 35 12)))) rfl ?_
        refine go_callq PM29 PM33 (Q' := _) rfl rfl rfl rfl (sp_X1_sum_f L xs sio (d + 18) (u2 (u2 (u2 dt 35 8 ((dt 35 8) + 1)) 41 (p1).toNat 8) 41 ((p1 + 1).toNat) (dt 35 12)) hI130 K V S t hz ht  (by first | assumption | exact TKc_fr h_p0 hF131 (by decide) (by decide) (by decide) (by omega) | omega) (by first | assumption | exact TKc_fr h_p0 hF131 (by decide) (by decide) (by decide) (by omega) | omega) (by first | assumption | exact TKc_fr h_p0 hF131 (by decide) (by decide) (by decide) (by omega) | omega)) ?_
        rintro _ _ ⟨dt141, rfl, hI142, hF143, h140⟩
        refine ⟨rfl, ?_⟩
        have hF144 : Fr [35, 41, 42] dt dt141 := Fr_tr hF131 hF143 (by decide)
        rcases h140 with ⟨rfl, h140⟩
        obtain ⟨h140_0, h140_1, h140_2, h140_3, h140_4, h140_5⟩ := h140
        have X145 : PX S t (gLine K V) (gL2 K V) dt dt141 := PX_st X137 h140_0 (fun hl => by first | exact rfl | (exfalso; omega))
        have r146 : 0 ≤ dt141 35 12 ∧ dt141 35 12 ≤ 500 := InvC_get hI142 35 12 rfl rfl
        refine go_toq PM29 (k := 7) (pc' := 90) (L' := [some (.inr (.inr (some 35))), some (.inl p1), some (.inl 1)]) (st' := [.inl (dt141 35 12), .inl (p1 + 2), .inr (.inr (some 41))]) (w' := (SH, dt141)) rfl ?_
        have hI147 : InvC (u2 dt141 41 ((p1 + 2).toNat) (dt141 35 12)) := InvC_u2 hI142 (lo := -2147483648) (hi := 2147483647) rfl rfl rfl (by first | exact bnd1 r146 (by decide) | omega) (by first | exact bnd2 r146 (by decide) | omega)
        have hF148 : Fr [35, 41, 42] dt (u2 dt141 41 ((p1 + 2).toNat) (dt141 35 12)) := Fr_u2 hF144 (by decide)
        have w149 : (u2 dt141 41 ((p1 + 2).toNat) (dt141 35 12)) 35 1 = dt141 35 1 := rfl
        have w150 : (u2 dt141 41 ((p1 + 2).toNat) (dt141 35 12)) 35 2 = dt141 35 2 := rfl
        have w151 : (u2 dt141 41 ((p1 + 2).toNat) (dt141 35 12)) 35 3 = dt141 35 3 := rfl
        have w152 : (u2 dt141 41 ((p1 + 2).toNat) (dt141 35 12)) 35 7 = dt141 35 7 := rfl
        have w153 : (u2 dt141 41 ((p1 + 2).toNat) (dt141 35 12)) 35 8 = dt141 35 8 := rfl
        have X154 : PX S t (gLine K V) (gL2 K V) dt (u2 dt141 41 ((p1 + 2).toNat) (dt141 35 12)) := PX_sm X145 rfl rfl rfl
        have kk155 : K ((u2 dt141 41 ((p1 + 2).toNat) (dt141 35 12)) 35 8).toNat = K (dt141 35 8).toNat := rfl
        have kk156 : V ((u2 dt141 41 ((p1 + 2).toNat) (dt141 35 12)) 35 8).toNat = V (dt141 35 8).toNat := rfl
        refine go_smpq PM29 (L' := [some (.inr (.inr (some 35))), some (.inl p1), some (.inl 1)]) (st' := []) (w' := (SH, (u2 dt141 41 ((p1 + 2).toNat) (dt141 35 12)))) rfl rfl (s_iast (n := 64) rfl ⟨by omega, by omega⟩ (by first | exact bnd r146 (by decide) (by decide) | exact ⟨by omega, by omega⟩)) ?_
        refine go_toq PM29 (k := 1) (pc' := 92) (L' := [some (.inr (.inr (some 35))), some (.inl p1), some (.inl 1)]) (st' := [.inr (.inr (some 35))]) (w' := (SH, (u2 dt141 41 ((p1 + 2).toNat) (dt141 35 12)))) rfl ?_
        refine go_callq PM29 PM20 (Q' := _) rfl rfl rfl rfl (sp_X1_token_f L xs sio (d + 20) (u2 dt141 41 ((p1 + 2).toNat) (dt141 35 12)) hI147 K V S t hz ht  (by first | assumption | exact TKc_fr h_p0 hF148 (by decide) (by decide) (by decide) (by omega) | omega) (by first | assumption | exact TKc_fr h_p0 hF148 (by decide) (by decide) (by decide) (by omega) | omega) (by first | assumption | exact TKc_fr h_p0 hF148 (by decide) (by decide) (by decide) (by omega) | omega)) ?_
        rintro _ _ ⟨rfl, h157⟩
        refine ⟨rfl, ?_⟩
        rcases h157 with ⟨v_h157, rfl, h157r, h157⟩
        refine go_ifq PM29 (k := 1) (p1 := 116) (p2 := 101) (L' := [some (.inr (.inr (some 35))), some (.inl p1), some (.inl 1)]) (st' := []) (w' := (SH, (u2 dt141 41 ((p1 + 2).toNat) (dt141 35 12)))) rfl (c_ne (a := v_h157) (b := 1002) (by first | exact bnd h157r (by decide) (by decide) | exact ⟨by omega, by omega⟩) ⟨by decide, by decide⟩) (fun c159 => ?_) (fun c159 => ?_)
        · skip
          refine go_toq PM29 (k := 7) (pc' := 127) (L' := [some (.inr (.inr (some 35))), some (.inl p1), some (.inl 1)]) (st' := [.inl (dt141 35 12), .inl (p1 + 3), .inr (.inr (some 41))]) (w' := (SH, (u2 dt141 41 ((p1 + 2).toNat) (dt141 35 12)))) rfl ?_
          have hI160 : InvC (u2 (u2 dt141 41 ((p1 + 2).toNat) (dt141 35 12)) 41 ((p1 + 3).toNat) (dt141 35 12)) := InvC_u2 hI147 (lo := -2147483648) (hi := 2147483647) rfl rfl rfl (by first | exact bnd1 r146 (by decide) | omega) (by first | exact bnd2 r146 (by decide) | omega)
          have hF161 : Fr [35, 41, 42] dt (u2 (u2 dt141 41 ((p1 + 2).toNat) (dt141 35 12)) 41 ((p1 + 3).toNat) (dt141 35 12)) := Fr_u2 hF148 (by decide)
          have w162 : (u2 (u2 dt141 41 ((p1 + 2).toNat) (dt141 35 12)) 41 ((p1 + 3).toNat) (dt141 35 12)) 35 1 = (u2 dt141 41 ((p1 + 2).toNat) (dt141 35 12)) 35 1 := rfl
          have w163 : (u2 (u2 dt141 41 ((p1 + 2).toNat) (dt141 35 12)) 41 ((p1 + 3).toNat) (dt141 35 12)) 35 2 = (u2 dt141 41 ((p1 + 2).toNat) (dt141 35 12)) 35 2 := rfl
          have w164 : (u2 (u2 dt141 41 ((p1 + 2).toNat) (dt141 35 12)) 41 ((p1 + 3).toNat) (dt141 35 12)) 35 3 = (u2 dt141 41 ((p1 + 2).toNat) (dt141 35 12)) 35 3 := rfl
          have w165 : (u2 (u2 dt141 41 ((p1 + 2).toNat) (dt141 35 12)) 41 ((p1 + 3).toNat) (dt141 35 12)) 35 7 = (u2 dt141 41 ((p1 + 2).toNat) (dt141 35 12)) 35 7 := rfl
          have w166 : (u2 (u2 dt141 41 ((p1 + 2).toNat) (dt141 35 12)) 41 ((p1 + 3).toNat) (dt141 35 12)) 35 8 = (u2 dt141 41 ((p1 + 2).toNat) (dt141 35 12)) 35 8 := rfl
          have X167 : PX S t (gLine K V) (gL2 K V) dt (u2 (u2 dt141 41 ((p1 + 2).toNat) (dt141 35 12)) 41 ((p1 + 3).toNat) (dt141 35 12)) := PX_sm X154 rfl rfl rfl
          have kk168 : K ((u2 (u2 dt141 41 ((p1 + 2).toNat) (dt141 35 12)) 41 ((p1 + 3).toNat) (dt141 35 12)) 35 8).toNat = K ((u2 dt141 41 ((p1 + 2).toNat) (dt141 35 12)) 35 8).toNat := rfl
          have kk169 : V ((u2 (u2 dt141 41 ((p1 + 2).toNat) (dt141 35 12)) 41 ((p1 + 3).toNat) (dt141 35 12)) 35 8).toNat = V ((u2 dt141 41 ((p1 + 2).toNat) (dt141 35 12)) 35 8).toNat := rfl
          refine go_smpq PM29 (L' := [some (.inr (.inr (some 35))), some (.inl p1), some (.inl 1)]) (st' := []) (w' := (SH, (u2 (u2 dt141 41 ((p1 + 2).toNat) (dt141 35 12)) 41 ((p1 + 3).toNat) (dt141 35 12)))) rfl rfl (s_iast (n := 64) rfl ⟨by omega, by omega⟩ (by first | exact bnd r146 (by decide) (by decide) | exact ⟨by omega, by omega⟩)) ?_
          refine go_toq PM29 (k := 2) (pc' := 131) (L' := [some (.inr (.inr (some 35))), some (.inl p1), some (.inl 1)]) (st' := [.inl 59, .inr (.inr (some 35))]) (w' := (SH, (u2 (u2 dt141 41 ((p1 + 2).toNat) (dt141 35 12)) 41 ((p1 + 3).toNat) (dt141 35 12)))) rfl ?_
          refine go_callq PM29 PM22 (Q' := _) rfl rfl rfl rfl (sp_X1_skip_f L xs sio (d + 19) (u2 (u2 dt141 41 ((p1 + 2).toNat) (dt141 35 12)) 41 ((p1 + 3).toNat) (dt141 35 12)) hI160 K V S t hz ht 59 ⟨by decide, by decide⟩ (by first | assumption | exact TKc_fr h_p0 hF161 (by decide) (by decide) (by decide) (by omega) | omega) (by first | assumption | exact TKc_fr h_p0 hF161 (by decide) (by decide) (by decide) (by omega) | omega) (by first | assumption | exact TKc_fr h_p0 hF161 (by decide) (by decide) (by decide) (by omega) | omega)) ?_
          rintro _ _ ⟨dt171, rfl, hI172, hF173, h170⟩
          refine ⟨rfl, ?_⟩
          have hF174 : Fr [35, 41, 42] dt dt171 := Fr_tr hF161 hF173 (by decide)
          rcases h170 with ⟨rfl, h170⟩
          obtain ⟨h170_0, h170_1, h170_2, h170_3, h170_4, h170_5⟩ := h170
          have X175 : PX S t (gLine K V) gOk dt dt171 := PX_st X167 h170_0 (fun hl => by first | (exact gL2_n (by omega)) | (exfalso; omega))
          refine go_retq PM29 (k := 0) (r := none) (w1 := (SH, dt171)) rfl ?_
          exact ⟨dt171, rfl, hI172, hF174, ⟨rfl, ⟨by exact PX_e X175 (by omega), by first | exact True.intro | assumption | rfl | omega | trivial, by first | exact True.intro | assumption | rfl | omega | trivial, by first | exact True.intro | assumption | rfl | omega | trivial, by first | exact True.intro | assumption | rfl | omega | trivial, by first | exact True.intro | assumption | rfl | omega | trivial, by first | exact True.intro | assumption | rfl | omega | trivial⟩⟩⟩
        · skip
          refine go_toq PM29 (k := 5) (pc' := 108) (L' := [some (.inr (.inr (some 35))), some (.inl p1), some (.inl 1)]) (st' := [.inl ((dt141 35 8) + 1), .inr (.inr (some 35))]) (w' := (SH, (u2 dt141 41 ((p1 + 2).toNat) (dt141 35 12)))) rfl ?_
          have hI176 : InvC (u2 (u2 dt141 41 ((p1 + 2).toNat) (dt141 35 12)) 35 8 ((dt141 35 8) + 1)) := InvC_u2 hI147 (lo := -2147483648) (hi := 2147483647) rfl rfl rfl (by omega) (by omega)
          have hF177 : Fr [35, 41, 42] dt (u2 (u2 dt141 41 ((p1 + 2).toNat) (dt141 35 12)) 35 8 ((dt141 35 8) + 1)) := Fr_u2 hF148 (by decide)
          have w178 : (u2 (u2 dt141 41 ((p1 + 2).toNat) (dt141 35 12)) 35 8 ((dt141 35 8) + 1)) 35 1 = (u2 dt141 41 ((p1 + 2).toNat) (dt141 35 12)) 35 1 := rfl
          have w179 : (u2 (u2 dt141 41 ((p1 + 2).toNat) (dt141 35 12)) 35 8 ((dt141 35 8) + 1)) 35 2 = (u2 dt141 41 ((p1 + 2).toNat) (dt141 35 12)) 35 2 := rfl
          have w180 : (u2 (u2 dt141 41 ((p1 + 2).toNat) (dt141 35 12)) 35 8 ((dt141 35 8) + 1)) 35 3 = (u2 dt141 41 ((p1 + 2).toNat) (dt141 35 12)) 35 3 := rfl
          have w181 : (u2 (u2 dt141 41 ((p1 + 2).toNat) (dt141 35 12)) 35 8 ((dt141 35 8) + 1)) 35 7 = (u2 dt141 41 ((p1 + 2).toNat) (dt141 35 12)) 35 7 := rfl
          have w182 : (u2 (u2 dt141 41 ((p1 + 2).toNat) (dt141 35 12)) 35 8 ((dt141 35 8) + 1)) 35 8 = (dt141 35 8) + 1 := rfl
          have lv184 := KLIVE hz (D := (u2 dt141 41 ((p1 + 2).toNat) (dt141 35 12))) (by omega) (by omega) (by omega)
          have X183 : PX S t (gLine K V) (fun i => gB (gB_ K V 8 i) (gK K 59)) dt (u2 (u2 dt141 41 ((p1 + 2).toNat) (dt141 35 12)) 35 8 ((dt141 35 8) + 1)) := PX_st X154 (SPX_inc hz (by omega) (by omega) (by omega) (by omega) (by omega)) (fun hl => by first | (show (gL2 K V) ((u2 dt141 41 ((p1 + 2).toNat) (dt141 35 12)) 35 8).toNat = (fun i => gB (gB_ K V 8 i) (gK K 59)) (((u2 dt141 41 ((p1 + 2).toNat) (dt141 35 12)) 35 8).toNat + 1); exact gL2_w (by omega)) | (exfalso; omega))
          refine go_smpq PM29 (L' := [some (.inr (.inr (some 35))), some (.inl p1), some (.inl 1)]) (st' := []) (w' := (SH, (u2 (u2 dt141 41 ((p1 + 2).toNat) (dt141 35 12)) 35 8 ((dt141 35 8) + 1)))) rfl rfl (s_pf rfl rfl rfl rfl ⟨by omega, by omega⟩) ?_
          refine go_toq PM29 (k := 2) (pc' := 113) (L' := [some (.inr (.inr (some 35))), some (.inl p1), some (.inl 1)]) (st' := [.inl 0, .inr (.inr (some 35))]) (w' := (SH, (u2 (u2 dt141 41 ((p1 + 2).toNat) (dt141 35 12)) 35 8 ((dt141 35 8) + 1)))) rfl ?_
          refine go_callq PM29 PM31 (Q' := _) rfl rfl rfl rfl (sp_X1_condition_0f L xs sio (d + 0) (u2 (u2 dt141 41 ((p1 + 2).toNat) (dt141 35 12)) 35 8 ((dt141 35 8) + 1)) hI176 K V S t hz ht  (by first | assumption | exact TKc_fr h_p0 hF177 (by decide) (by decide) (by decide) (by omega) | omega) (by first | assumption | exact TKc_fr h_p0 hF177 (by decide) (by decide) (by decide) (by omega) | omega) (by first | assumption | exact TKc_fr h_p0 hF177 (by decide) (by decide) (by decide) (by omega) | omega)) ?_
          rintro _ _ ⟨dt186, rfl, hI187, hF188, h185⟩
          refine ⟨rfl, ?_⟩
          have hF189 : Fr [35, 41, 42] dt dt186 := Fr_tr hF177 hF188 (by decide)
          rcases h185 with ⟨rfl, h185⟩
          obtain ⟨h185_0, h185_1, h185_2, h185_3, h185_4, h185_5⟩ := h185
          have X190 : PX S t (gLine K V) (gK K 59) dt dt186 := PX_st X183 h185_0 (fun hl => by first | exact rfl | (exfalso; omega))
          have r191 : 0 ≤ dt186 35 12 ∧ dt186 35 12 ≤ 500 := InvC_get hI187 35 12 rfl rfl
          refine go_toq PM29 (k := 7) (pc' := 127) (L' := [some (.inr (.inr (some 35))), some (.inl p1), some (.inl 1)]) (st' := [.inl (dt186 35 12), .inl (p1 + 3), .inr (.inr (some 41))]) (w' := (SH, dt186)) rfl ?_
          have hI192 : InvC (u2 dt186 41 ((p1 + 3).toNat) (dt186 35 12)) := InvC_u2 hI187 (lo := -2147483648) (hi := 2147483647) rfl rfl rfl (by first | exact bnd1 r191 (by decide) | omega) (by first | exact bnd2 r191 (by decide) | omega)
          have hF193 : Fr [35, 41, 42] dt (u2 dt186 41 ((p1 + 3).toNat) (dt186 35 12)) := Fr_u2 hF189 (by decide)
          have w194 : (u2 dt186 41 ((p1 + 3).toNat) (dt186 35 12)) 35 1 = dt186 35 1 := rfl
          have w195 : (u2 dt186 41 ((p1 + 3).toNat) (dt186 35 12)) 35 2 = dt186 35 2 := rfl
          have w196 : (u2 dt186 41 ((p1 + 3).toNat) (dt186 35 12)) 35 3 = dt186 35 3 := rfl
          have w197 : (u2 dt186 41 ((p1 + 3).toNat) (dt186 35 12)) 35 7 = dt186 35 7 := rfl
          have w198 : (u2 dt186 41 ((p1 + 3).toNat) (dt186 35 12)) 35 8 = dt186 35 8 := rfl
          have X199 : PX S t (gLine K V) (gK K 59) dt (u2 dt186 41 ((p1 + 3).toNat) (dt186 35 12)) := PX_sm X190 rfl rfl rfl
          have kk200 : K ((u2 dt186 41 ((p1 + 3).toNat) (dt186 35 12)) 35 8).toNat = K (dt186 35 8).toNat := rfl
          have kk201 : V ((u2 dt186 41 ((p1 + 3).toNat) (dt186 35 12)) 35 8).toNat = V (dt186 35 8).toNat := rfl
          refine go_smpq PM29 (L' := [some (.inr (.inr (some 35))), some (.inl p1), some (.inl 1)]) (st' := []) (w' := (SH, (u2 dt186 41 ((p1 + 3).toNat) (dt186 35 12)))) rfl rfl (s_iast (n := 64) rfl ⟨by omega, by omega⟩ (by first | exact bnd r191 (by decide) (by decide) | exact ⟨by omega, by omega⟩)) ?_
          refine go_toq PM29 (k := 2) (pc' := 131) (L' := [some (.inr (.inr (some 35))), some (.inl p1), some (.inl 1)]) (st' := [.inl 59, .inr (.inr (some 35))]) (w' := (SH, (u2 dt186 41 ((p1 + 3).toNat) (dt186 35 12)))) rfl ?_
          refine go_callq PM29 PM22 (Q' := _) rfl rfl rfl rfl (sp_X1_skip_f L xs sio (d + 19) (u2 dt186 41 ((p1 + 3).toNat) (dt186 35 12)) hI192 K V S t hz ht 59 ⟨by decide, by decide⟩ (by first | assumption | exact TKc_fr h_p0 hF193 (by decide) (by decide) (by decide) (by omega) | omega) (by first | assumption | exact TKc_fr h_p0 hF193 (by decide) (by decide) (by decide) (by omega) | omega) (by first | assumption | exact TKc_fr h_p0 hF193 (by decide) (by decide) (by decide) (by omega) | omega)) ?_
          rintro _ _ ⟨dt203, rfl, hI204, hF205, h202⟩
          refine ⟨rfl, ?_⟩
          have hF206 : Fr [35, 41, 42] dt dt203 := Fr_tr hF193 hF205 (by decide)
          rcases h202 with ⟨rfl, h202⟩
          obtain ⟨h202_0, h202_1, h202_2, h202_3, h202_4, h202_5⟩ := h202
          have X207 : PX S t (gLine K V) gOk dt dt203 := PX_st X199 h202_0 (fun hl => by first | exact gB_id.symm | (exfalso; omega))
          refine go_retq PM29 (k := 0) (r := none) (w1 := (SH, dt203)) rfl ?_
          exact ⟨dt203, rfl, hI204, hF206, ⟨rfl, ⟨by exact PX_e X207 (by omega), by first | exact True.intro | assumption | rfl | omega | trivial, by first | exact True.intro | assumption | rfl | omega | trivial, by first | exact True.intro | assumption | rfl | omega | trivial, by first | exact True.intro | assumption | rfl | omega | trivial, by first | exact True.intro | assumption | rfl | omega | trivial, by first | exact True.intro | assumption | rfl | omega | trivial⟩⟩⟩
    · exfalso; omega
