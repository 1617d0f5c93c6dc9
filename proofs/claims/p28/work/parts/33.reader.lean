theorem sp_X1_hasRoom (L : Nat) (xs : Nat → Int32) (sio : Option Nat) (d : Nat) (dt : Nat → Nat → Int) (hI : InvC dt)  (p1 : Int) (h_p1 : 0 ≤ p1 ∧ p1 ≤ 500)  : GO (am_XX L xs sio) (d) 6 0 [some (.inr (.inr (some 35))), some (.inl p1)] [] (SH, dt) (fun r w2 => w2 = (SH, dt) ∧ ((r = some (.inl 1) ∧ (dt 35 1 + p1 ≤ 500)) ∨ (r = some (.inl 0) ∧ (¬ (dt 35 1 + p1 ≤ 500))))) := by
  have r1 : 0 ≤ dt 35 1 ∧ dt 35 1 ≤ 500 := InvC_get hI 35 1 rfl rfl
  refine go_ifq PM6 (k := 5) (p1 := 16) (p2 := 12) (L' := [some (.inr (.inr (some 35))), some (.inl p1)]) (st' := []) (w' := (SH, dt)) rfl (c_gt (a := (dt 35 1) + p1) (b := 500) ⟨by omega, by omega⟩ ⟨by decide, by decide⟩) (fun c3 => ?_) (fun c3 => ?_)
  · skip
    refine go_retq PM6 (k := 1) (r := some (.inl 0)) (w1 := (SH, dt)) rfl ?_
    exact ⟨rfl, (Or.inr ⟨rfl, by first | exact True.intro | with_reducible assumption | rfl | omega | trivial⟩)⟩
  · skip
    refine go_retq PM6 (k := 2) (r := some (.inl 1)) (w1 := (SH, dt)) rfl ?_
    exact ⟨rfl, (Or.inl ⟨rfl, by first | exact True.intro | with_reducible assumption | rfl | omega | trivial⟩)⟩
theorem sp_X1_take (L : Nat) (xs : Nat → Int32) (sio : Option Nat) (d : Nat) (dt : Nat → Nat → Int) (hI : InvC dt)  (p1 : Int) (h_p1 : (-2147483648) ≤ p1 ∧ p1 ≤ 2147483647) (h_p0 : dt 35 1 ≤ 496) : GO (am_XX L xs sio) (d) 7 0 [some (.inr (.inr (some 35))), some (.inl p1), none] [] (SH, dt) (fun r w2 => ∃ dt2 : Nat → Nat → Int, w2 = (SH, dt2) ∧ InvC dt2 ∧ Fr [35, 36] dt dt2 ∧ ((r = none ∧ (dt2 35 1 = dt 35 1 + 4)))) := by
  have hF : Fr [35, 36] dt dt := Fr_refl
  have r1 : 0 ≤ dt 35 1 ∧ dt 35 1 ≤ 500 := InvC_get hI 35 1 rfl rfl
  refine go_toq PM7 (k := 2) (pc' := 3) (L' := [some (.inr (.inr (some 35))), some (.inl p1), some (.inl 24)]) (st' := []) (w' := (SH, dt)) rfl ?_
  have loop20 : ∀ (k_ : Nat) (l3_2 : Int) (dt15 : Nat → Nat → Int) (hI16 : InvC dt15) (hF17 : Fr [35, 36] dt dt15) (i18 : (-8) ≤ l3_2 ∧ l3_2 ≤ 24) (i19 : 8 * dt15 35 1 = 8 * dt 35 1 + (24 - l3_2)), (l3_2 + 9).toNat < k_ → GO (am_XX L xs sio) (d) 7 3 [some (.inr (.inr (some 35))), some (.inl p1), some (.inl l3_2)] [] (SH, dt15) (fun r w2 => ∃ dt2 : Nat → Nat → Int, w2 = (SH, dt2) ∧ InvC dt2 ∧ Fr [35, 36] dt dt2 ∧ ((r = none ∧ (dt2 35 1 = dt 35 1 + 4)))) := by
    intro k_
    induction k_ with
    | zero => intro l3_2 dt15 hI16 hF17 i18 i19 hm; exact absurd hm (Nat.not_lt_zero _)
    | succ k_ ih_loop20 =>
      intro l3_2 dt15 hI16 hF17 i18 i19 hm
      refine go_ifq PM7 (k := 1) (p1 := 46) (p2 := 7) (L' := [some (.inr (.inr (some 35))), some (.inl p1), some (.inl l3_2)]) (st' := []) (w' := (SH, dt15)) rfl (z_lt (a := l3_2) (by first | exact bnd i18 (by decide) (by decide) | exact ⟨by omega, by omega⟩)) (fun c21 => ?_) (fun c21 => ?_)
      · skip
        refine go_retq PM7 (k := 0) (r := none) (w1 := (SH, dt15)) rfl ?_
        exact ⟨dt15, rfl, hI16, hF17, ⟨rfl, by first | exact True.intro | with_reducible assumption | rfl | omega | trivial⟩⟩
      · skip
        have r22 : 0 ≤ dt15 35 1 ∧ dt15 35 1 ≤ 500 := InvC_get hI16 35 1 rfl rfl
        refine go_ifq PM7 (k := 3) (p1 := 46) (p2 := 17) (L' := [some (.inr (.inr (some 35))), some (.inl p1), some (.inl l3_2)]) (st' := []) (w' := (SH, dt15)) rfl (c_ge (a := dt15 35 1) (b := 500) (by first | exact bnd r22 (by decide) (by decide) | exact ⟨by omega, by omega⟩) ⟨by decide, by decide⟩) (fun c23 => ?_) (fun c23 => ?_)
        · skip
          refine go_retq PM7 (k := 0) (r := none) (w1 := (SH, dt15)) rfl ?_
          exact ⟨dt15, rfl, hI16, hF17, ⟨rfl, by first | exact True.intro | with_reducible assumption | rfl | omega | trivial⟩⟩
        · skip
          have r24 : -2147483648 ≤ am_shr p1 l3_2 ∧ am_shr p1 l3_2 ≤ 2147483647 := am_shr_R
          have r25 := i2b_R (am_shr p1 l3_2)
          refine go_toq PM7 (k := 8) (pc' := 29) (L' := [some (.inr (.inr (some 35))), some (.inl p1), some (.inl l3_2)]) (st' := [.inl (am_i2b (am_shr p1 l3_2)), .inl (dt15 35 1), .inr (.inr (some 36))]) (w' := (SH, dt15)) rfl ?_
          have r26 := i2b_R (am_i2b (am_shr p1 l3_2))
          have hI27 : InvC (u2 dt15 36 ((dt15 35 1).toNat) (am_i2b (am_i2b (am_shr p1 l3_2)))) := InvC_u2 hI16 (lo := -128) (hi := 127) rfl rfl rfl (by omega) (by omega)
          have hF28 : Fr [35, 36] dt (u2 dt15 36 ((dt15 35 1).toNat) (am_i2b (am_i2b (am_shr p1 l3_2)))) := Fr_u2 hF17 (by decide)
          have w29 : (u2 dt15 36 ((dt15 35 1).toNat) (am_i2b (am_i2b (am_shr p1 l3_2)))) 35 1 = dt15 35 1 := rfl
          refine go_smpq PM7 (L' := [some (.inr (.inr (some 35))), some (.inl p1), some (.inl l3_2)]) (st' := []) (w' := (SH, (u2 dt15 36 ((dt15 35 1).toNat) (am_i2b (am_i2b (am_shr p1 l3_2)))))) rfl rfl (s_bast (n := 500) rfl (by first | exact bndc r22 c23 (by decide) (by decide) | exact bndx r22 (by decide) (by decide) | exact ⟨by omega, by omega⟩)) ?_
          refine go_toq PM7 (k := 5) (pc' := 37) (L' := [some (.inr (.inr (some 35))), some (.inl p1), some (.inl l3_2)]) (st' := [.inl ((dt15 35 1) + 1), .inr (.inr (some 35))]) (w' := (SH, (u2 dt15 36 ((dt15 35 1).toNat) (am_i2b (am_i2b (am_shr p1 l3_2)))))) rfl ?_
          have hI30 : InvC (u2 (u2 dt15 36 ((dt15 35 1).toNat) (am_i2b (am_i2b (am_shr p1 l3_2)))) 35 1 ((dt15 35 1) + 1)) := InvC_u2 hI27 (lo := 0) (hi := 500) rfl rfl rfl (by omega) (by omega)
          have hF31 : Fr [35, 36] dt (u2 (u2 dt15 36 ((dt15 35 1).toNat) (am_i2b (am_i2b (am_shr p1 l3_2)))) 35 1 ((dt15 35 1) + 1)) := Fr_u2 hF28 (by decide)
          have w32 : (u2 (u2 dt15 36 ((dt15 35 1).toNat) (am_i2b (am_i2b (am_shr p1 l3_2)))) 35 1 ((dt15 35 1) + 1)) 35 1 = (dt15 35 1) + 1 := rfl
          refine go_smpq PM7 (L' := [some (.inr (.inr (some 35))), some (.inl p1), some (.inl l3_2)]) (st' := []) (w' := (SH, (u2 (u2 dt15 36 ((dt15 35 1).toNat) (am_i2b (am_i2b (am_shr p1 l3_2)))) 35 1 ((dt15 35 1) + 1)))) rfl rfl (s_pf rfl rfl rfl rfl (by first | exact bndp r22 (by decide) (by decide) | exact ⟨by omega, by omega⟩)) ?_
          refine go_toq PM7 (k := 2) (pc' := 3) (L' := [some (.inr (.inr (some 35))), some (.inl p1), some (.inl (l3_2 + (-8)))]) (st' := []) (w' := (SH, (u2 (u2 dt15 36 ((dt15 35 1).toNat) (am_i2b (am_i2b (am_shr p1 l3_2)))) 35 1 ((dt15 35 1) + 1)))) rfl ?_
          exact GO.le (ih_loop20 (l3_2 + (-8)) (u2 (u2 dt15 36 ((dt15 35 1).toNat) (am_i2b (am_i2b (am_shr p1 l3_2)))) 35 1 ((dt15 35 1) + 1)) hI30 hF31 (by omega) (by omega) (by omega)) ⟨.inl rfl, .inl rfl, .inl rfl, trivial⟩
  exact GO.le (loop20 _ 24 dt hI hF ⟨by decide, by decide⟩ (by omega) (Nat.lt_succ_self _)) ⟨.inl rfl, .inl rfl, .inl rfl, trivial⟩
theorem sp_X1_shorten (L : Nat) (xs : Nat → Int32) (sio : Option Nat) (d : Nat) (dt : Nat → Nat → Int) (hI : InvC dt)  (p1 : Int) (h_p1 : (-2147483648) ≤ p1 ∧ p1 ≤ 2147483647)  : GO (am_XX L xs sio) (d) 8 0 [some (.inr (.inr (some 35))), some (.inl p1)] [] (SH, dt) (fun r w2 => ∃ dt2 : Nat → Nat → Int, w2 = (SH, dt2) ∧ InvC dt2 ∧ Fr [35] dt dt2 ∧ ((r = some (.inl 1) ∧ (0 ≤ p1 ∧ p1 ≤ dt 35 1) ∧ (dt2 35 1 = p1)) ∨ (r = some (.inl 0) ∧ (¬ (0 ≤ p1 ∧ p1 ≤ dt 35 1)) ∧ (dt2 35 1 = dt 35 1)))) := by
  have hF : Fr [35] dt dt := Fr_refl
  refine go_ifq PM8 (k := 1) (p1 := 12) (p2 := 4) (L' := [some (.inr (.inr (some 35))), some (.inl p1)]) (st' := []) (w' := (SH, dt)) rfl (z_lt (a := p1) (by first | exact bnd h_p1 (by decide) (by decide) | exact ⟨by omega, by omega⟩)) (fun c1 => ?_) (fun c1 => ?_)
  · skip
    refine go_retq PM8 (k := 1) (r := some (.inl 0)) (w1 := (SH, dt)) rfl ?_
    exact ⟨dt, rfl, hI, hF, (Or.inr ⟨rfl, ⟨by first | exact True.intro | with_reducible assumption | rfl | omega | trivial, by first | exact True.intro | with_reducible assumption | rfl | omega | trivial⟩⟩)⟩
  · skip
    have r2 : 0 ≤ dt 35 1 ∧ dt 35 1 ≤ 500 := InvC_get hI 35 1 rfl rfl
    refine go_ifq PM8 (k := 3) (p1 := 14) (p2 := 12) (L' := [some (.inr (.inr (some 35))), some (.inl p1)]) (st' := []) (w' := (SH, dt)) rfl (c_le (a := p1) (b := dt 35 1) (by first | exact bnd h_p1 (by decide) (by decide) | exact ⟨by omega, by omega⟩) (by first | exact bnd r2 (by decide) (by decide) | exact ⟨by omega, by omega⟩)) (fun c3 => ?_) (fun c3 => ?_)
    · skip
      refine go_toq PM8 (k := 2) (pc' := 16) (L' := [some (.inr (.inr (some 35))), some (.inl p1)]) (st' := [.inl p1, .inr (.inr (some 35))]) (w' := (SH, dt)) rfl ?_
      have hI4 : InvC (u2 dt 35 1 p1) := InvC_u2 hI (lo := 0) (hi := 500) rfl rfl rfl (by first | exact bnd1 h_p1 (by decide) | omega) (by first | exact bnd2 h_p1 (by decide) | omega)
      have hF5 : Fr [35] dt (u2 dt 35 1 p1) := Fr_u2 hF (by decide)
      have w6 : (u2 dt 35 1 p1) 35 1 = p1 := rfl
      refine go_smpq PM8 (L' := [some (.inr (.inr (some 35))), some (.inl p1)]) (st' := []) (w' := (SH, (u2 dt 35 1 p1))) rfl rfl (s_pf rfl rfl rfl rfl (by first | exact bnd h_p1 (by decide) (by decide) | exact ⟨by omega, by omega⟩)) ?_
      refine go_retq PM8 (k := 1) (r := some (.inl 1)) (w1 := (SH, (u2 dt 35 1 p1))) rfl ?_
      exact ⟨(u2 dt 35 1 p1), rfl, hI4, hF5, (Or.inl ⟨rfl, ⟨by first | exact True.intro | with_reducible assumption | rfl | omega | trivial, by first | exact True.intro | with_reducible assumption | rfl | omega | trivial⟩⟩)⟩
    · skip
      refine go_retq PM8 (k := 1) (r := some (.inl 0)) (w1 := (SH, dt)) rfl ?_
      exact ⟨dt, rfl, hI, hF, (Or.inr ⟨rfl, ⟨by first | exact True.intro | with_reducible assumption | rfl | omega | trivial, by first | exact True.intro | with_reducible assumption | rfl | omega | trivial⟩⟩)⟩
theorem sp_X1_byteAt (L : Nat) (xs : Nat → Int32) (sio : Option Nat) (d : Nat) (dt : Nat → Nat → Int) (hI : InvC dt)  (p1 : Int) (h_p1 : (-2147483648) ≤ p1 ∧ p1 ≤ 2147483647)  : GO (am_XX L xs sio) (d) 10 0 [some (.inr (.inr (some 35))), some (.inl p1)] [] (SH, dt) (fun r w2 => w2 = (SH, dt) ∧ ((∃ v : Int, r = some (.inl v) ∧ (0 ≤ v ∧ v ≤ 255) ∧ True))) := by
  have j6 :  GO (am_XX L xs sio) (d) 10 26 [some (.inr (.inr (some 35))), none] [.inl 0] (SH, dt) (fun r w2 => w2 = (SH, dt) ∧ ((∃ v : Int, r = some (.inl v) ∧ (0 ≤ v ∧ v ≤ 255) ∧ True))) := by
    skip
    refine go_retq PM10 (k := 0) (r := some (.inl 0)) (w1 := (SH, dt)) rfl ?_
    exact ⟨rfl, ⟨_, rfl, ⟨by decide, by decide⟩, trivial⟩⟩
  refine go_ifq PM10 (k := 1) (p1 := 25) (p2 := 4) (L' := [some (.inr (.inr (some 35))), some (.inl p1)]) (st' := []) (w' := (SH, dt)) rfl (z_lt (a := p1) (by first | exact bnd h_p1 (by decide) (by decide) | exact ⟨by omega, by omega⟩)) (fun c7 => ?_) (fun c7 => ?_)
  · skip
    refine go_toq PM10 (k := 1) (pc' := 26) (L' := [some (.inr (.inr (some 35))), some (.inl p1)]) (st' := [.inl 0]) (w' := (SH, dt)) rfl ?_
    exact GO.le (j6 ) ⟨.inl rfl, .inr ⟨rfl, trivial⟩, trivial⟩
  · skip
    have r8 : 0 ≤ dt 35 1 ∧ dt 35 1 ≤ 500 := InvC_get hI 35 1 rfl rfl
    refine go_ifq PM10 (k := 3) (p1 := 25) (p2 := 12) (L' := [some (.inr (.inr (some 35))), some (.inl p1)]) (st' := []) (w' := (SH, dt)) rfl (c_ge (a := p1) (b := dt 35 1) (by first | exact bnd h_p1 (by decide) (by decide) | exact ⟨by omega, by omega⟩) (by first | exact bnd r8 (by decide) (by decide) | exact ⟨by omega, by omega⟩)) (fun c9 => ?_) (fun c9 => ?_)
    · skip
      refine go_toq PM10 (k := 1) (pc' := 26) (L' := [some (.inr (.inr (some 35))), some (.inl p1)]) (st' := [.inl 0]) (w' := (SH, dt)) rfl ?_
      exact GO.le (j6 ) ⟨.inl rfl, .inr ⟨rfl, trivial⟩, trivial⟩
    · skip
      refine go_toq PM10 (k := 3) (pc' := 17) (L' := [some (.inr (.inr (some 35))), some (.inl p1)]) (st' := [.inl p1, .inr (.inr (some 36))]) (w' := (SH, dt)) rfl ?_
      have r10 : (-128) ≤ dt 36 (p1).toNat ∧ dt 36 (p1).toNat ≤ 127 := InvC_get hI 36 (p1).toNat rfl rfl
      refine go_smpq PM10 (L' := [some (.inr (.inr (some 35))), some (.inl p1)]) (st' := [.inl (dt 36 (p1).toNat)]) (w' := (SH, dt)) rfl rfl (s_bald (n := 500) (f := dt 36) rfl (by first | exact bndc h_p1 c9 (by decide) (by decide) | exact bndx h_p1 (by decide) (by decide) | exact ⟨by omega, by omega⟩)) ?_
      have r11 : 0 ≤ am_and (dt 36 (p1).toNat) 255 ∧ am_and (dt 36 (p1).toNat) 255 ≤ 255 := and_R255
      refine go_retq PM10 (k := 3) (r := some (.inl (am_and (dt 36 (p1).toNat) 255))) (w1 := (SH, dt)) rfl ?_
      exact ⟨rfl, ⟨_, rfl, (by first | exact bnd r11 (by decide) (by decide) | exact ⟨by omega, by omega⟩), trivial⟩⟩
theorem sp_X1_isBlank (L : Nat) (xs : Nat → Int32) (sio : Option Nat) (d : Nat) (dt : Nat → Nat → Int) (hI : InvC dt)  (p1 : Int) (h_p1 : (-2147483648) ≤ p1 ∧ p1 ≤ 2147483647)  : GO (am_XX L xs sio) (d) 11 0 [some (.inl p1)] [] (SH, dt) (fun r w2 => w2 = (SH, dt) ∧ ((r = some (.inl 1) ∧ True) ∨ (r = some (.inl 0) ∧ True))) := by
  have j3 :  GO (am_XX L xs sio) (d) 11 17 [none] [.inl 1] (SH, dt) (fun r w2 => w2 = (SH, dt) ∧ ((r = some (.inl 1) ∧ True) ∨ (r = some (.inl 0) ∧ True))) := by
    skip
    refine go_retq PM11 (k := 0) (r := some (.inl 1)) (w1 := (SH, dt)) rfl ?_
    exact ⟨rfl, (Or.inl ⟨rfl, trivial⟩)⟩
  refine go_ifq PM11 (k := 2) (p1 := 12) (p2 := 6) (L' := [some (.inl p1)]) (st' := []) (w' := (SH, dt)) rfl (c_eq (a := p1) (b := 32) (by first | exact bnd h_p1 (by decide) (by decide) | exact ⟨by omega, by omega⟩) ⟨by decide, by decide⟩) (fun c4 => ?_) (fun c4 => ?_)
  · skip
    refine go_toq PM11 (k := 2) (pc' := 17) (L' := [some (.inl p1)]) (st' := [.inl 1]) (w' := (SH, dt)) rfl ?_
    exact GO.le (j3 ) ⟨.inr ⟨rfl, trivial⟩, trivial⟩
  · skip
    replace c4 := hid c4
    refine go_ifq PM11 (k := 2) (p1 := 16) (p2 := 12) (L' := [some (.inl p1)]) (st' := []) (w' := (SH, dt)) rfl (c_ne (a := p1) (b := 10) (by first | exact bnd h_p1 (by decide) (by decide) | exact ⟨by (first | omega | (have z0_ := unhid c4; omega)), by (first | omega | (have z0_ := unhid c4; omega))⟩) ⟨by decide, by decide⟩) (fun c5 => ?_) (fun c5 => ?_)
    · skip
      replace c5 := hid c5
      refine go_retq PM11 (k := 1) (r := some (.inl 0)) (w1 := (SH, dt)) rfl ?_
      exact ⟨rfl, (Or.inr ⟨rfl, trivial⟩)⟩
    · skip
      refine go_toq PM11 (k := 2) (pc' := 17) (L' := [some (.inl p1)]) (st' := [.inl 1]) (w' := (SH, dt)) rfl ?_
      exact GO.le (j3 ) ⟨.inr ⟨rfl, trivial⟩, trivial⟩
theorem sp_X1_isDigit (L : Nat) (xs : Nat → Int32) (sio : Option Nat) (d : Nat) (dt : Nat → Nat → Int) (hI : InvC dt)  (p1 : Int) (h_p1 : (-2147483648) ≤ p1 ∧ p1 ≤ 2147483647)  : GO (am_XX L xs sio) (d) 12 0 [some (.inl p1)] [] (SH, dt) (fun r w2 => w2 = (SH, dt) ∧ ((r = some (.inl 1) ∧ True) ∨ (r = some (.inl 0) ∧ True))) := by
  have j3 :  GO (am_XX L xs sio) (d) 12 17 [none] [.inl 0] (SH, dt) (fun r w2 => w2 = (SH, dt) ∧ ((r = some (.inl 1) ∧ True) ∨ (r = some (.inl 0) ∧ True))) := by
    skip
    refine go_retq PM12 (k := 0) (r := some (.inl 0)) (w1 := (SH, dt)) rfl ?_
    exact ⟨rfl, (Or.inr ⟨rfl, trivial⟩)⟩
  refine go_ifq PM12 (k := 2) (p1 := 16) (p2 := 6) (L' := [some (.inl p1)]) (st' := []) (w' := (SH, dt)) rfl (c_lt (a := p1) (b := 48) (by first | exact bnd h_p1 (by decide) (by decide) | exact ⟨by omega, by omega⟩) ⟨by decide, by decide⟩) (fun c4 => ?_) (fun c4 => ?_)
  · skip
    refine go_toq PM12 (k := 1) (pc' := 17) (L' := [some (.inl p1)]) (st' := [.inl 0]) (w' := (SH, dt)) rfl ?_
    exact GO.le (j3 ) ⟨.inr ⟨rfl, trivial⟩, trivial⟩
  · skip
    refine go_ifq PM12 (k := 2) (p1 := 16) (p2 := 12) (L' := [some (.inl p1)]) (st' := []) (w' := (SH, dt)) rfl (c_gt (a := p1) (b := 57) (by first | exact bnd h_p1 (by decide) (by decide) | exact ⟨by omega, by omega⟩) ⟨by decide, by decide⟩) (fun c5 => ?_) (fun c5 => ?_)
    · skip
      refine go_toq PM12 (k := 1) (pc' := 17) (L' := [some (.inl p1)]) (st' := [.inl 0]) (w' := (SH, dt)) rfl ?_
      exact GO.le (j3 ) ⟨.inr ⟨rfl, trivial⟩, trivial⟩
    · skip
      refine go_retq PM12 (k := 2) (r := some (.inl 1)) (w1 := (SH, dt)) rfl ?_
      exact ⟨rfl, (Or.inl ⟨rfl, trivial⟩)⟩
theorem sp_X1_isLetter (L : Nat) (xs : Nat → Int32) (sio : Option Nat) (d : Nat) (dt : Nat → Nat → Int) (hI : InvC dt)  (p1 : Int) (h_p1 : (-2147483648) ≤ p1 ∧ p1 ≤ 2147483647)  : GO (am_XX L xs sio) (d) 13 0 [some (.inl p1)] [] (SH, dt) (fun r w2 => w2 = (SH, dt) ∧ ((r = some (.inl 1) ∧ True) ∨ (r = some (.inl 0) ∧ True))) := by
  have j7 :  GO (am_XX L xs sio) (d) 13 29 [none] [.inl 0] (SH, dt) (fun r w2 => w2 = (SH, dt) ∧ ((r = some (.inl 1) ∧ True) ∨ (r = some (.inl 0) ∧ True))) := by
    skip
    refine go_retq PM13 (k := 0) (r := some (.inl 0)) (w1 := (SH, dt)) rfl ?_
    exact ⟨rfl, (Or.inr ⟨rfl, trivial⟩)⟩
  have j8 :  GO (am_XX L xs sio) (d) 13 29 [none] [.inl 1] (SH, dt) (fun r w2 => w2 = (SH, dt) ∧ ((r = some (.inl 1) ∧ True) ∨ (r = some (.inl 0) ∧ True))) := by
    skip
    refine go_retq PM13 (k := 0) (r := some (.inl 1)) (w1 := (SH, dt)) rfl ?_
    exact ⟨rfl, (Or.inl ⟨rfl, trivial⟩)⟩
  refine go_ifq PM13 (k := 2) (p1 := 12) (p2 := 6) (L' := [some (.inl p1)]) (st' := []) (w' := (SH, dt)) rfl (c_lt (a := p1) (b := 97) (by first | exact bnd h_p1 (by decide) (by decide) | exact ⟨by omega, by omega⟩) ⟨by decide, by decide⟩) (fun c9 => ?_) (fun c9 => ?_)
  · skip
    refine go_ifq PM13 (k := 2) (p1 := 28) (p2 := 18) (L' := [some (.inl p1)]) (st' := []) (w' := (SH, dt)) rfl (c_lt (a := p1) (b := 65) (by first | exact bnd h_p1 (by decide) (by decide) | exact ⟨by omega, by omega⟩) ⟨by decide, by decide⟩) (fun c10 => ?_) (fun c10 => ?_)
    · skip
      refine go_toq PM13 (k := 1) (pc' := 29) (L' := [some (.inl p1)]) (st' := [.inl 0]) (w' := (SH, dt)) rfl ?_
      exact GO.le (j7 ) ⟨.inr ⟨rfl, trivial⟩, trivial⟩
    · skip
      refine go_ifq PM13 (k := 2) (p1 := 28) (p2 := 24) (L' := [some (.inl p1)]) (st' := []) (w' := (SH, dt)) rfl (c_gt (a := p1) (b := 90) (by first | exact bnd h_p1 (by decide) (by decide) | exact ⟨by omega, by omega⟩) ⟨by decide, by decide⟩) (fun c11 => ?_) (fun c11 => ?_)
      · skip
        refine go_toq PM13 (k := 1) (pc' := 29) (L' := [some (.inl p1)]) (st' := [.inl 0]) (w' := (SH, dt)) rfl ?_
        exact GO.le (j7 ) ⟨.inr ⟨rfl, trivial⟩, trivial⟩
      · skip
        refine go_toq PM13 (k := 2) (pc' := 29) (L' := [some (.inl p1)]) (st' := [.inl 1]) (w' := (SH, dt)) rfl ?_
        exact GO.le (j8 ) ⟨.inr ⟨rfl, trivial⟩, trivial⟩
  · skip
    refine go_ifq PM13 (k := 2) (p1 := 24) (p2 := 12) (L' := [some (.inl p1)]) (st' := []) (w' := (SH, dt)) rfl (c_le (a := p1) (b := 122) (by first | exact bnd h_p1 (by decide) (by decide) | exact ⟨by omega, by omega⟩) ⟨by decide, by decide⟩) (fun c12 => ?_) (fun c12 => ?_)
    · skip
      refine go_toq PM13 (k := 2) (pc' := 29) (L' := [some (.inl p1)]) (st' := [.inl 1]) (w' := (SH, dt)) rfl ?_
      exact GO.le (j8 ) ⟨.inr ⟨rfl, trivial⟩, trivial⟩
    · skip
      refine go_ifq PM13 (k := 2) (p1 := 28) (p2 := 18) (L' := [some (.inl p1)]) (st' := []) (w' := (SH, dt)) rfl (c_lt (a := p1) (b := 65) (by first | exact bnd h_p1 (by decide) (by decide) | exact ⟨by omega, by omega⟩) ⟨by decide, by decide⟩) (fun c13 => ?_) (fun c13 => ?_)
      · exfalso; omega
      · skip
        refine go_ifq PM13 (k := 2) (p1 := 28) (p2 := 24) (L' := [some (.inl p1)]) (st' := []) (w' := (SH, dt)) rfl (c_gt (a := p1) (b := 90) (by first | exact bnd h_p1 (by decide) (by decide) | exact ⟨by omega, by omega⟩) ⟨by decide, by decide⟩) (fun c14 => ?_) (fun c14 => ?_)
        · skip
          refine go_toq PM13 (k := 1) (pc' := 29) (L' := [some (.inl p1)]) (st' := [.inl 0]) (w' := (SH, dt)) rfl ?_
          exact GO.le (j7 ) ⟨.inr ⟨rfl, trivial⟩, trivial⟩
        · exfalso; omega
theorem sp_X1_runEnd (L : Nat) (xs : Nat → Int32) (sio : Option Nat) (d : Nat) (dt : Nat → Nat → Int) (hI : InvC dt)  (p1 : Int) (h_p1 : 0 ≤ p1 ∧ p1 ≤ 500)  : GO (am_XX L xs sio) (d + 1) 14 0 [some (.inr (.inr (some 35))), some (.inl p1), none] [] (SH, dt) (fun r w2 => w2 = (SH, dt) ∧ ((∃ v : Int, r = some (.inl v) ∧ (1 ≤ v ∧ v ≤ 501) ∧ True))) := by
  refine go_toq PM14 (k := 6) (pc' := 6) (L' := [some (.inr (.inr (some 35))), some (.inl p1), some (.inl (p1 + 1))]) (st' := [.inl p1, .inr (.inr (some 35))]) (w' := (SH, dt)) rfl ?_
  refine go_callq PM14 PM10 (Q' := _) rfl rfl rfl rfl (sp_X1_byteAt L xs sio (d + 0) dt hI  p1 (by first | exact h_p1 | exact bnd h_p1 (by decide) (by decide) | exact ⟨by omega, by omega⟩) ) ?_
  rintro _ _ ⟨rfl, h1⟩
  refine ⟨rfl, ?_⟩
  rcases h1 with ⟨v_h1, rfl, h1r, h1⟩
  refine go_callq PM14 PM13 (Q' := _) rfl rfl rfl rfl (sp_X1_isLetter L xs sio (d + 0) dt hI  v_h1 (by first | exact bnd h1r (by decide) (by decide) | exact ⟨by omega, by omega⟩) ) ?_
  rintro _ _ ⟨rfl, h2⟩
  refine ⟨rfl, ?_⟩
  rcases h2 with ⟨rfl, h2⟩ | ⟨rfl, h2⟩
  · skip
    have j14 : ∀ (j14_a2 : Int) (i15 : 1 ≤ j14_a2 ∧ j14_a2 ≤ 501), GO (am_XX L xs sio) (d + 1) 14 76 [some (.inr (.inr (some 35))), none, some (.inl j14_a2)] [] (SH, dt) (fun r w2 => w2 = (SH, dt) ∧ ((∃ v : Int, r = some (.inl v) ∧ (1 ≤ v ∧ v ≤ 501) ∧ True))) := by
      intro j14_a2 i15
      refine go_retq PM14 (k := 1) (r := some (.inl j14_a2)) (w1 := (SH, dt)) rfl ?_
      exact ⟨rfl, ⟨_, rfl, (by first | exact bnd i15 (by decide) (by decide) | exact ⟨by omega, by omega⟩), trivial⟩⟩
    refine go_toq PM14 (k := 1) (pc' := 15) (L' := [some (.inr (.inr (some 35))), some (.inl p1), some (.inl (p1 + 1))]) (st' := []) (w' := (SH, dt)) rfl ?_
    have loop22 : ∀ (k_ : Nat) (l15_2 : Int) (i21 : 1 ≤ l15_2 ∧ l15_2 ≤ 501), (502 - l15_2).toNat < k_ → GO (am_XX L xs sio) (d + 1) 14 15 [some (.inr (.inr (some 35))), none, some (.inl l15_2)] [] (SH, dt) (fun r w2 => w2 = (SH, dt) ∧ ((∃ v : Int, r = some (.inl v) ∧ (1 ≤ v ∧ v ≤ 501) ∧ True))) := by
      intro k_
      induction k_ with
      | zero => intro l15_2 i21 hm; exact absurd hm (Nat.not_lt_zero _)
      | succ k_ ih_loop22 =>
        intro l15_2 i21 hm
        have r23 : 0 ≤ dt 35 1 ∧ dt 35 1 ≤ 500 := InvC_get hI 35 1 rfl rfl
        refine go_ifq PM14 (k := 3) (p1 := 76) (p2 := 23) (L' := [some (.inr (.inr (some 35))), none, some (.inl l15_2)]) (st' := []) (w' := (SH, dt)) rfl (c_ge (a := l15_2) (b := dt 35 1) (by first | exact bnd i21 (by decide) (by decide) | exact ⟨by omega, by omega⟩) (by first | exact bnd r23 (by decide) (by decide) | exact ⟨by omega, by omega⟩)) (fun c24 => ?_) (fun c24 => ?_)
        · skip
          exact GO.le (j14 l15_2 (by first | exact bnd i21 (by decide) (by decide) | omega)) ⟨.inl rfl, .inl rfl, .inl rfl, trivial⟩
        · skip
          refine go_toq PM14 (k := 2) (pc' := 25) (L' := [some (.inr (.inr (some 35))), none, some (.inl l15_2)]) (st' := [.inl l15_2, .inr (.inr (some 35))]) (w' := (SH, dt)) rfl ?_
          refine go_callq PM14 PM10 (Q' := _) rfl rfl rfl rfl (sp_X1_byteAt L xs sio (d + 0) dt hI  l15_2 (by first | exact bnd i21 (by decide) (by decide) | exact bndd i21 c24 (by decide) (by decide) | exact ⟨by omega, by omega⟩) ) ?_
          rintro _ _ ⟨rfl, h25⟩
          refine ⟨rfl, ?_⟩
          rcases h25 with ⟨v_h25, rfl, h25r, h25⟩
          refine go_callq PM14 PM13 (Q' := _) rfl rfl rfl rfl (sp_X1_isLetter L xs sio (d + 0) dt hI  v_h25 (by first | exact bnd h25r (by decide) (by decide) | exact ⟨by omega, by omega⟩) ) ?_
          rintro _ _ ⟨rfl, h26⟩
          refine ⟨rfl, ?_⟩
          rcases h26 with ⟨rfl, h26⟩ | ⟨rfl, h26⟩
          · skip
            refine go_toq PM14 (k := 3) (pc' := 15) (L' := [some (.inr (.inr (some 35))), none, some (.inl (l15_2 + 1))]) (st' := []) (w' := (SH, dt)) rfl ?_
            exact GO.le (ih_loop22 (l15_2 + 1) (by first | exact bndp i21 (by decide) (by decide) | exact bnde i21 c24 (by decide) (by decide) | omega) (by omega)) ⟨.inl rfl, .inl rfl, .inl rfl, trivial⟩
          · skip
            refine go_toq PM14 (k := 1) (pc' := 76) (L' := [some (.inr (.inr (some 35))), none, some (.inl l15_2)]) (st' := []) (w' := (SH, dt)) rfl ?_
            exact GO.le (j14 l15_2 (by first | exact bnd i21 (by decide) (by decide) | omega)) ⟨.inl rfl, .inl rfl, .inl rfl, trivial⟩
    exact GO.le (loop22 _ (p1 + 1) (by first | exact bndp h_p1 (by decide) (by decide) | omega) (Nat.lt_succ_self _)) ⟨.inl rfl, .inr ⟨rfl, trivial⟩, .inl rfl, trivial⟩
  · skip
    have j40 : ∀ (j40_a2 : Int) (i41 : 1 ≤ j40_a2 ∧ j40_a2 ≤ 501), GO (am_XX L xs sio) (d + 1) 14 76 [some (.inr (.inr (some 35))), none, some (.inl j40_a2)] [] (SH, dt) (fun r w2 => w2 = (SH, dt) ∧ ((∃ v : Int, r = some (.inl v) ∧ (1 ≤ v ∧ v ≤ 501) ∧ True))) := by
      intro j40_a2 i41
      refine go_retq PM14 (k := 1) (r := some (.inl j40_a2)) (w1 := (SH, dt)) rfl ?_
      exact ⟨rfl, ⟨_, rfl, (by first | exact bnd i41 (by decide) (by decide) | exact ⟨by omega, by omega⟩), trivial⟩⟩
    refine go_toq PM14 (k := 3) (pc' := 42) (L' := [some (.inr (.inr (some 35))), some (.inl p1), some (.inl (p1 + 1))]) (st' := [.inl p1, .inr (.inr (some 35))]) (w' := (SH, dt)) rfl ?_
    refine go_callq PM14 PM10 (Q' := _) rfl rfl rfl rfl (sp_X1_byteAt L xs sio (d + 0) dt hI  p1 (by first | exact h_p1 | exact bnd h_p1 (by decide) (by decide) | exact ⟨by omega, by omega⟩) ) ?_
    rintro _ _ ⟨rfl, h42⟩
    refine ⟨rfl, ?_⟩
    rcases h42 with ⟨v_h42, rfl, h42r, h42⟩
    refine go_callq PM14 PM12 (Q' := _) rfl rfl rfl rfl (sp_X1_isDigit L xs sio (d + 0) dt hI  v_h42 (by first | exact bnd h42r (by decide) (by decide) | exact ⟨by omega, by omega⟩) ) ?_
    rintro _ _ ⟨rfl, h43⟩
    refine ⟨rfl, ?_⟩
    rcases h43 with ⟨rfl, h43⟩ | ⟨rfl, h43⟩
    · skip
      refine go_toq PM14 (k := 1) (pc' := 51) (L' := [some (.inr (.inr (some 35))), some (.inl p1), some (.inl (p1 + 1))]) (st' := []) (w' := (SH, dt)) rfl ?_
      have loop50 : ∀ (k_ : Nat) (l51_2 : Int) (i49 : 1 ≤ l51_2 ∧ l51_2 ≤ 501), (502 - l51_2).toNat < k_ → GO (am_XX L xs sio) (d + 1) 14 51 [some (.inr (.inr (some 35))), none, some (.inl l51_2)] [] (SH, dt) (fun r w2 => w2 = (SH, dt) ∧ ((∃ v : Int, r = some (.inl v) ∧ (1 ≤ v ∧ v ≤ 501) ∧ True))) := by
        intro k_
        induction k_ with
        | zero => intro l51_2 i49 hm; exact absurd hm (Nat.not_lt_zero _)
        | succ k_ ih_loop50 =>
          intro l51_2 i49 hm
          have r51 : 0 ≤ dt 35 1 ∧ dt 35 1 ≤ 500 := InvC_get hI 35 1 rfl rfl
          refine go_ifq PM14 (k := 3) (p1 := 76) (p2 := 59) (L' := [some (.inr (.inr (some 35))), none, some (.inl l51_2)]) (st' := []) (w' := (SH, dt)) rfl (c_ge (a := l51_2) (b := dt 35 1) (by first | exact bnd i49 (by decide) (by decide) | exact ⟨by omega, by omega⟩) (by first | exact bnd r51 (by decide) (by decide) | exact ⟨by omega, by omega⟩)) (fun c52 => ?_) (fun c52 => ?_)
          · skip
            exact GO.le (j40 l51_2 (by first | exact bnd i49 (by decide) (by decide) | omega)) ⟨.inl rfl, .inl rfl, .inl rfl, trivial⟩
          · skip
            refine go_toq PM14 (k := 2) (pc' := 61) (L' := [some (.inr (.inr (some 35))), none, some (.inl l51_2)]) (st' := [.inl l51_2, .inr (.inr (some 35))]) (w' := (SH, dt)) rfl ?_
            refine go_callq PM14 PM10 (Q' := _) rfl rfl rfl rfl (sp_X1_byteAt L xs sio (d + 0) dt hI  l51_2 (by first | exact bnd i49 (by decide) (by decide) | exact bndd i49 c52 (by decide) (by decide) | exact ⟨by omega, by omega⟩) ) ?_
            rintro _ _ ⟨rfl, h53⟩
            refine ⟨rfl, ?_⟩
            rcases h53 with ⟨v_h53, rfl, h53r, h53⟩
            refine go_callq PM14 PM12 (Q' := _) rfl rfl rfl rfl (sp_X1_isDigit L xs sio (d + 0) dt hI  v_h53 (by first | exact bnd h53r (by decide) (by decide) | exact ⟨by omega, by omega⟩) ) ?_
            rintro _ _ ⟨rfl, h54⟩
            refine ⟨rfl, ?_⟩
            rcases h54 with ⟨rfl, h54⟩ | ⟨rfl, h54⟩
            · skip
              refine go_toq PM14 (k := 3) (pc' := 51) (L' := [some (.inr (.inr (some 35))), none, some (.inl (l51_2 + 1))]) (st' := []) (w' := (SH, dt)) rfl ?_
              exact GO.le (ih_loop50 (l51_2 + 1) (by first | exact bndp i49 (by decide) (by decide) | exact bnde i49 c52 (by decide) (by decide) | omega) (by omega)) ⟨.inl rfl, .inl rfl, .inl rfl, trivial⟩
            · skip
              refine go_toq PM14 (k := 1) (pc' := 76) (L' := [some (.inr (.inr (some 35))), none, some (.inl l51_2)]) (st' := []) (w' := (SH, dt)) rfl ?_
              exact GO.le (j40 l51_2 (by first | exact bnd i49 (by decide) (by decide) | omega)) ⟨.inl rfl, .inl rfl, .inl rfl, trivial⟩
      exact GO.le (loop50 _ (p1 + 1) (by first | exact bndp h_p1 (by decide) (by decide) | omega) (Nat.lt_succ_self _)) ⟨.inl rfl, .inr ⟨rfl, trivial⟩, .inl rfl, trivial⟩
    · skip
      refine go_toq PM14 (k := 1) (pc' := 76) (L' := [some (.inr (.inr (some 35))), some (.inl p1), some (.inl (p1 + 1))]) (st' := []) (w' := (SH, dt)) rfl ?_
      exact GO.le (j40 (p1 + 1) (by first | exact bndp h_p1 (by decide) (by decide) | omega)) ⟨.inl rfl, .inr ⟨rfl, trivial⟩, .inl rfl, trivial⟩
theorem sp_X1_addToken (L : Nat) (xs : Nat → Int32) (sio : Option Nat) (d : Nat) (dt : Nat → Nat → Int) (hI : InvC dt)  (p1 : Int) (h_p1 : 0 ≤ p1 ∧ p1 ≤ 1100) (p2 : Int) (p3 : Int) (h_p3 : 0 ≤ p3 ∧ p3 ≤ 500)  : GO (am_XX L xs sio) (d) 15 0 [some (.inr (.inr (some 35))), some (.inl p1), some (.inl p2), some (.inl p3)] [] (SH, dt) (fun r w2 => ∃ dt2 : Nat → Nat → Int, w2 = (SH, dt2) ∧ InvC dt2 ∧ Fr [35, 37, 38, 39] dt dt2 ∧ ((r = none ∧ True))) := by
  have hF : Fr [35, 37, 38, 39] dt dt := Fr_refl
  have r1 : 0 ≤ dt 35 7 ∧ dt 35 7 ≤ 501 := InvC_get hI 35 7 rfl rfl
  have j12 : ∀ (j12_d : Nat → Nat → Int) (j12_hI : InvC j12_d) (j12_hF : Fr [35, 37, 38, 39] dt j12_d), GO (am_XX L xs sio) (d) 15 52 [some (.inr (.inr (some 35))), none, none, none] [] (SH, j12_d) (fun r w2 => ∃ dt2 : Nat → Nat → Int, w2 = (SH, dt2) ∧ InvC dt2 ∧ Fr [35, 37, 38, 39] dt dt2 ∧ ((r = none ∧ True))) := by
    intro j12_d j12_hI j12_hF
    refine go_retq PM15 (k := 0) (r := none) (w1 := (SH, j12_d)) rfl ?_
    exact ⟨j12_d, rfl, j12_hI, j12_hF, ⟨rfl, trivial⟩⟩
  refine go_ifq PM15 (k := 5) (p1 := 52) (p2 := 12) (L' := [some (.inr (.inr (some 35))), some (.inl p1), some (.inl p2), some (.inl p3)]) (st' := []) (w' := (SH, dt)) rfl (c_ge (a := dt 35 7) (b := 501) (by first | exact bnd r1 (by decide) (by decide) | exact ⟨by omega, by omega⟩) ⟨by decide, by decide⟩) (fun c13 => ?_) (fun c13 => ?_)
  · skip
    exact GO.le (j12 dt hI hF) ⟨.inl rfl, .inr ⟨rfl, trivial⟩, .inr ⟨rfl, trivial⟩, .inr ⟨rfl, trivial⟩, trivial⟩
  · skip
    refine go_toq PM15 (k := 5) (pc' := 21) (L' := [some (.inr (.inr (some 35))), some (.inl p1), some (.inl p2), some (.inl p3)]) (st' := [.inl p1, .inl (dt 35 7), .inr (.inr (some 37))]) (w' := (SH, dt)) rfl ?_
    have hI14 : InvC (u2 dt 37 ((dt 35 7).toNat) p1) := InvC_u2 hI (lo := 0) (hi := 1100) rfl rfl rfl (by first | exact bnd1 h_p1 (by decide) | omega) (by first | exact bnd2 h_p1 (by decide) | omega)
    have hF15 : Fr [35, 37, 38, 39] dt (u2 dt 37 ((dt 35 7).toNat) p1) := Fr_u2 hF (by decide)
    refine go_smpq PM15 (L' := [some (.inr (.inr (some 35))), some (.inl p1), some (.inl p2), some (.inl p3)]) (st' := []) (w' := (SH, (u2 dt 37 ((dt 35 7).toNat) p1))) rfl rfl (s_iast (n := 501) rfl (by first | exact bndc r1 c13 (by decide) (by decide) | exact bndx r1 (by decide) (by decide) | exact ⟨by omega, by omega⟩) (by first | exact bnd h_p1 (by decide) (by decide) | exact ⟨by omega, by omega⟩)) ?_
    refine go_toq PM15 (k := 5) (pc' := 31) (L' := [some (.inr (.inr (some 35))), some (.inl p1), some (.inl p2), some (.inl p3)]) (st' := [.inl p2, .inl (dt 35 7), .inr (.inr (some 38))]) (w' := (SH, (u2 dt 37 ((dt 35 7).toNat) p1))) rfl ?_
    have r16 := wr_RR p2
    have hI17 : InvC (u2 (u2 dt 37 ((dt 35 7).toNat) p1) 38 ((dt 35 7).toNat) (wr p2)) := InvC_u2 hI14 (lo := -2147483648) (hi := 2147483647) rfl rfl rfl (by omega) (by omega)
    have hF18 : Fr [35, 37, 38, 39] dt (u2 (u2 dt 37 ((dt 35 7).toNat) p1) 38 ((dt 35 7).toNat) (wr p2)) := Fr_u2 hF15 (by decide)
    refine go_smpq PM15 (L' := [some (.inr (.inr (some 35))), some (.inl p1), some (.inl p2), some (.inl p3)]) (st' := []) (w' := (SH, (u2 (u2 dt 37 ((dt 35 7).toNat) p1) 38 ((dt 35 7).toNat) (wr p2)))) rfl rfl (s_iastw (n := 501) rfl (by first | exact bndc r1 c13 (by decide) (by decide) | exact bndx r1 (by decide) (by decide) | exact ⟨by omega, by omega⟩)) ?_
    refine go_toq PM15 (k := 5) (pc' := 41) (L' := [some (.inr (.inr (some 35))), some (.inl p1), some (.inl p2), some (.inl p3)]) (st' := [.inl p3, .inl (dt 35 7), .inr (.inr (some 39))]) (w' := (SH, (u2 (u2 dt 37 ((dt 35 7).toNat) p1) 38 ((dt 35 7).toNat) (wr p2)))) rfl ?_
    have hI19 : InvC (u2 (u2 (u2 dt 37 ((dt 35 7).toNat) p1) 38 ((dt 35 7).toNat) (wr p2)) 39 ((dt 35 7).toNat) p3) := InvC_u2 hI17 (lo := -2147483648) (hi := 2147483647) rfl rfl rfl (by first | exact bnd1 h_p3 (by decide) | omega) (by first | exact bnd2 h_p3 (by decide) | omega)
    have hF20 : Fr [35, 37, 38, 39] dt (u2 (u2 (u2 dt 37 ((dt 35 7).toNat) p1) 38 ((dt 35 7).toNat) (wr p2)) 39 ((dt 35 7).toNat) p3) := Fr_u2 hF18 (by decide)
    refine go_smpq PM15 (L' := [some (.inr (.inr (some 35))), some (.inl p1), some (.inl p2), some (.inl p3)]) (st' := []) (w' := (SH, (u2 (u2 (u2 dt 37 ((dt 35 7).toNat) p1) 38 ((dt 35 7).toNat) (wr p2)) 39 ((dt 35 7).toNat) p3))) rfl rfl (s_iast (n := 501) rfl (by first | exact bndc r1 c13 (by decide) (by decide) | exact bndx r1 (by decide) (by decide) | exact ⟨by omega, by omega⟩) (by first | exact bnd h_p3 (by decide) (by decide) | exact ⟨by omega, by omega⟩)) ?_
    refine go_toq PM15 (k := 5) (pc' := 49) (L' := [some (.inr (.inr (some 35))), some (.inl p1), some (.inl p2), some (.inl p3)]) (st' := [.inl ((dt 35 7) + 1), .inr (.inr (some 35))]) (w' := (SH, (u2 (u2 (u2 dt 37 ((dt 35 7).toNat) p1) 38 ((dt 35 7).toNat) (wr p2)) 39 ((dt 35 7).toNat) p3))) rfl ?_
    have hI21 : InvC (u2 (u2 (u2 (u2 dt 37 ((dt 35 7).toNat) p1) 38 ((dt 35 7).toNat) (wr p2)) 39 ((dt 35 7).toNat) p3) 35 7 ((dt 35 7) + 1)) := InvC_u2 hI19 (lo := 0) (hi := 501) rfl rfl rfl (by omega) (by omega)
    have hF22 : Fr [35, 37, 38, 39] dt (u2 (u2 (u2 (u2 dt 37 ((dt 35 7).toNat) p1) 38 ((dt 35 7).toNat) (wr p2)) 39 ((dt 35 7).toNat) p3) 35 7 ((dt 35 7) + 1)) := Fr_u2 hF20 (by decide)
    refine go_smpq PM15 (L' := [some (.inr (.inr (some 35))), some (.inl p1), some (.inl p2), some (.inl p3)]) (st' := []) (w' := (SH, (u2 (u2 (u2 (u2 dt 37 ((dt 35 7).toNat) p1) 38 ((dt 35 7).toNat) (wr p2)) 39 ((dt 35 7).toNat) p3) 35 7 ((dt 35 7) + 1)))) rfl rfl (s_pf rfl rfl rfl rfl (by first | exact bndp r1 (by decide) (by decide) | exact ⟨by omega, by omega⟩)) ?_
    exact GO.le (j12 (u2 (u2 (u2 (u2 dt 37 ((dt 35 7).toNat) p1) 38 ((dt 35 7).toNat) (wr p2)) 39 ((dt 35 7).toNat) p3) 35 7 ((dt 35 7) + 1)) hI21 hF22) ⟨.inl rfl, .inr ⟨rfl, trivial⟩, .inr ⟨rfl, trivial⟩, .inr ⟨rfl, trivial⟩, trivial⟩
theorem sp_X1_numberOf (L : Nat) (xs : Nat → Int32) (sio : Option Nat) (d : Nat) (dt : Nat → Nat → Int) (hI : InvC dt)  (p1 : Int) (h_p1 : 0 ≤ p1 ∧ p1 ≤ 500) (p2 : Int) (h_p2 : 0 ≤ p2 ∧ p2 ≤ 502)  : GO (am_XX L xs sio) (d + 1) 17 0 [some (.inr (.inr (some 35))), some (.inl p1), some (.inl p2), none, none] [] (SH, dt) (fun r w2 => w2 = (SH, dt) ∧ ((∃ v : Int, r = some (.inl v) ∧ True ∧ True))) := by
  refine go_toq PM17 (k := 4) (pc' := 5) (L' := [some (.inr (.inr (some 35))), some (.inl p1), some (.inl p2), some (.inl 0), some (.inl p1)]) (st' := []) (w' := (SH, dt)) rfl ?_
  have loop22 : ∀ (k_ : Nat) (l5_3 : Int) (l5_4 : Int) (i21 : 0 ≤ l5_4 ∧ l5_4 ≤ 502), (503 - l5_4).toNat < k_ → GO (am_XX L xs sio) (d + 1) 17 5 [some (.inr (.inr (some 35))), some (.inl p1), some (.inl p2), some (.inl l5_3), some (.inl l5_4)] [] (SH, dt) (fun r w2 => w2 = (SH, dt) ∧ ((∃ v : Int, r = some (.inl v) ∧ True ∧ True))) := by
    intro k_
    induction k_ with
    | zero => intro l5_3 l5_4 i21 hm; exact absurd hm (Nat.not_lt_zero _)
    | succ k_ ih_loop22 =>
      intro l5_3 l5_4 i21 hm
      have j26 :  GO (am_XX L xs sio) (d + 1) 17 40 [some (.inr (.inr (some 35))), none, none, some (.inl l5_3), none] [] (SH, dt) (fun r w2 => w2 = (SH, dt) ∧ ((∃ v : Int, r = some (.inl v) ∧ True ∧ True))) := by
        skip
        refine go_retq PM17 (k := 1) (r := some (.inl l5_3)) (w1 := (SH, dt)) rfl ?_
        exact ⟨rfl, ⟨_, rfl, trivial, trivial⟩⟩
      refine go_ifq PM17 (k := 2) (p1 := 40) (p2 := 11) (L' := [some (.inr (.inr (some 35))), some (.inl p1), some (.inl p2), some (.inl l5_3), some (.inl l5_4)]) (st' := []) (w' := (SH, dt)) rfl (c_ge (a := l5_4) (b := p2) (by first | exact bnd i21 (by decide) (by decide) | exact ⟨by omega, by omega⟩) (by first | exact bnd h_p2 (by decide) (by decide) | exact ⟨by omega, by omega⟩)) (fun c27 => ?_) (fun c27 => ?_)
      · skip
        exact GO.le (j26 ) ⟨.inl rfl, .inr ⟨rfl, trivial⟩, .inr ⟨rfl, trivial⟩, .inl rfl, .inr ⟨rfl, trivial⟩, trivial⟩
      · skip
        refine go_ifq PM17 (k := 4) (p1 := 40) (p2 := 19) (L' := [some (.inr (.inr (some 35))), some (.inl p1), some (.inl p2), some (.inl l5_3), some (.inl l5_4)]) (st' := []) (w' := (SH, dt)) rfl (c_ge (a := l5_4) (b := p1 + 4) (by first | exact bnd i21 (by decide) (by decide) | exact bndd i21 c27 (by decide) (by decide) | exact ⟨by omega, by omega⟩) (by first | exact bndp h_p1 (by decide) (by decide) | exact ⟨by omega, by omega⟩)) (fun c28 => ?_) (fun c28 => ?_)
        · skip
          exact GO.le (j26 ) ⟨.inl rfl, .inr ⟨rfl, trivial⟩, .inr ⟨rfl, trivial⟩, .inl rfl, .inr ⟨rfl, trivial⟩, trivial⟩
        · skip
          refine go_toq PM17 (k := 5) (pc' := 26) (L' := [some (.inr (.inr (some 35))), some (.inl p1), some (.inl p2), some (.inl l5_3), some (.inl l5_4)]) (st' := [.inl l5_4, .inr (.inr (some 35)), .inl (10 * l5_3)]) (w' := (SH, dt)) rfl ?_
          refine go_callq PM17 PM10 (Q' := _) rfl rfl rfl rfl (sp_X1_byteAt L xs sio (d + 0) dt hI  l5_4 (by first | exact bnd i21 (by decide) (by decide) | exact bndd i21 c28 (by decide) (by decide) | exact ⟨by omega, by omega⟩) ) ?_
          rintro _ _ ⟨rfl, h29⟩
          refine ⟨rfl, ?_⟩
          rcases h29 with ⟨v_h29, rfl, h29r, h29⟩
          refine go_toq PM17 (k := 6) (pc' := 5) (L' := [some (.inr (.inr (some 35))), some (.inl p1), some (.inl p2), some (.inl (((10 * l5_3) + v_h29) - 48)), some (.inl (l5_4 + 1))]) (st' := []) (w' := (SH, dt)) rfl ?_
          exact GO.le (ih_loop22 (((10 * l5_3) + v_h29) - 48) (l5_4 + 1) (by first | exact bndp i21 (by decide) (by decide) | exact bnde i21 c28 (by decide) (by decide) | omega) (by omega)) ⟨.inl rfl, .inl rfl, .inl rfl, .inl rfl, .inl rfl, trivial⟩
  exact GO.le (loop22 _ 0 p1 (by first | exact bnd h_p1 (by decide) (by decide) | omega) (Nat.lt_succ_self _)) ⟨.inl rfl, .inl rfl, .inl rfl, .inl rfl, .inl rfl, trivial⟩
theorem sp_X1_isSame_1000 (L : Nat) (xs : Nat → Int32) (sio : Option Nat) (d : Nat) (dt : Nat → Nat → Int) (hI : InvC dt)  (p2 : Int) (h_p2 : 0 ≤ p2 ∧ p2 ≤ 62) (p3 : Int) (h_p3 : 0 ≤ p3 ∧ p3 ≤ 500) (p4 : Int) (h_p4 : 0 ≤ p4 ∧ p4 ≤ 502)  : GO (am_XX L xs sio) (d + 4) 19 0 [some (.inr (.inr (some 35))), some (.inr (.inr (some 1000))), some (.inl p2), some (.inl p3), some (.inl p4), none, none] [] (SH, dt) (fun r w2 => w2 = (SH, dt) ∧ ((r = some (.inl 1) ∧ True) ∨ (r = some (.inl 0) ∧ True))) := by
  refine go_toq PM19 (k := 2) (pc' := 3) (L' := [some (.inr (.inr (some 35))), some (.inr (.inr (some 1000))), some (.inl p2), some (.inl p3), some (.inl p4), some (.inl p3), none]) (st' := []) (w' := (SH, dt)) rfl ?_
  have loop24 : ∀ (k_ : Nat) (l3_5 : Int) (i22 : 0 ≤ l3_5 ∧ l3_5 ≤ 502) (i23 : p3 ≤ l3_5), (503 - l3_5).toNat < k_ → GO (am_XX L xs sio) (d + 4) 19 3 [some (.inr (.inr (some 35))), some (.inr (.inr (some 1000))), some (.inl p2), some (.inl p3), some (.inl p4), some (.inl l3_5), none] [] (SH, dt) (fun r w2 => w2 = (SH, dt) ∧ ((r = some (.inl 1) ∧ True) ∨ (r = some (.inl 0) ∧ True))) := by
    intro k_
    induction k_ with
    | zero => intro l3_5 i22 i23 hm; exact absurd hm (Nat.not_lt_zero _)
    | succ k_ ih_loop24 =>
      intro l3_5 i22 i23 hm
      refine go_ifq PM19 (k := 2) (p1 := 50) (p2 := 10) (L' := [some (.inr (.inr (some 35))), some (.inr (.inr (some 1000))), some (.inl p2), some (.inl p3), some (.inl p4), some (.inl l3_5), none]) (st' := []) (w' := (SH, dt)) rfl (c_ge (a := l3_5) (b := p4) (by first | exact bnd i22 (by decide) (by decide) | exact ⟨by omega, by omega⟩) (by first | exact bnd h_p4 (by decide) (by decide) | exact ⟨by omega, by omega⟩)) (fun c25 => ?_) (fun c25 => ?_)
      · skip
        refine go_retq PM19 (k := 1) (r := some (.inl 1)) (w1 := (SH, dt)) rfl ?_
        exact ⟨rfl, (Or.inl ⟨rfl, trivial⟩)⟩
      · skip
        refine go_toq PM19 (k := 8) (pc' := 21) (L' := [some (.inr (.inr (some 35))), some (.inr (.inr (some 1000))), some (.inl p2), some (.inl p3), some (.inl p4), some (.inl l3_5), some (.inl ((p2 + l3_5) - p3))]) (st' := [.inr (.inr (some 1000)), .inl ((p2 + l3_5) - p3)]) (w' := (SH, dt)) rfl ?_
        refine go_callq PM19 PM249 (Q' := _) rfl rfl rfl rfl (sp_J0_length_8abf5_1000 L xs sio (d + 2) dt hI   ) ?_
        rintro _ _ ⟨rfl, h26⟩
        refine ⟨rfl, ?_⟩
        rcases h26 with ⟨rfl, h26⟩
        refine go_ifq PM19 (k := 0) (p1 := 42) (p2 := 27) (L' := [some (.inr (.inr (some 35))), some (.inr (.inr (some 1000))), some (.inl p2), some (.inl p3), some (.inl p4), some (.inl l3_5), some (.inl ((p2 + l3_5) - p3))]) (st' := []) (w' := (SH, dt)) rfl (c_ge (a := (p2 + l3_5) - p3) (b := 45) ⟨by omega, by omega⟩ ⟨by decide, by decide⟩) (fun c27 => ?_) (fun c27 => ?_)
        · skip
          refine go_retq PM19 (k := 1) (r := some (.inl 0)) (w1 := (SH, dt)) rfl ?_
          exact ⟨rfl, (Or.inr ⟨rfl, trivial⟩)⟩
        · skip
          refine go_toq PM19 (k := 2) (pc' := 30) (L' := [some (.inr (.inr (some 35))), some (.inr (.inr (some 1000))), some (.inl p2), some (.inl p3), some (.inl p4), some (.inl l3_5), some (.inl ((p2 + l3_5) - p3))]) (st' := [.inl ((p2 + l3_5) - p3), .inr (.inr (some 1000))]) (w' := (SH, dt)) rfl ?_
          refine go_callq PM19 PM250 (Q' := _) rfl rfl rfl rfl (sp_J0_charAt_5068e_1000 L xs sio (d + 0) dt hI  ((p2 + l3_5) - p3) ⟨by omega, by omega⟩ ) ?_
          rintro _ _ ⟨rfl, h28⟩
          refine ⟨rfl, ?_⟩
          rcases h28 with ⟨v_h28, rfl, h28r, h28⟩
          refine go_toq PM19 (k := 2) (pc' := 36) (L' := [some (.inr (.inr (some 35))), some (.inr (.inr (some 1000))), some (.inl p2), some (.inl p3), some (.inl p4), some (.inl l3_5), some (.inl ((p2 + l3_5) - p3))]) (st' := [.inl l3_5, .inr (.inr (some 35)), .inl v_h28]) (w' := (SH, dt)) rfl ?_
          refine go_callq PM19 PM10 (Q' := _) rfl rfl rfl rfl (sp_X1_byteAt L xs sio (d + 3) dt hI  l3_5 (by first | exact bnd i22 (by decide) (by decide) | exact bndd i22 c25 (by decide) (by decide) | exact ⟨by omega, by omega⟩) ) ?_
          rintro _ _ ⟨rfl, h29⟩
          refine ⟨rfl, ?_⟩
          rcases h29 with ⟨v_h29, rfl, h29r, h29⟩
          refine go_ifq PM19 (k := 0) (p1 := 44) (p2 := 42) (L' := [some (.inr (.inr (some 35))), some (.inr (.inr (some 1000))), some (.inl p2), some (.inl p3), some (.inl p4), some (.inl l3_5), some (.inl ((p2 + l3_5) - p3))]) (st' := []) (w' := (SH, dt)) rfl (c_eq (a := v_h28) (b := v_h29) (by first | exact bnd h28r (by decide) (by decide) | exact ⟨by omega, by omega⟩) (by first | exact bnd h29r (by decide) (by decide) | exact ⟨by omega, by omega⟩)) (fun c30 => ?_) (fun c30 => ?_)
          · skip
            refine go_toq PM19 (k := 2) (pc' := 3) (L' := [some (.inr (.inr (some 35))), some (.inr (.inr (some 1000))), some (.inl p2), some (.inl p3), some (.inl p4), some (.inl (l3_5 + 1)), some (.inl ((p2 + l3_5) - p3))]) (st' := []) (w' := (SH, dt)) rfl ?_
            exact GO.le (ih_loop24 (l3_5 + 1) (by first | exact bndp i22 (by decide) (by decide) | exact bnde i22 c25 (by decide) (by decide) | omega) (by omega) (by omega)) ⟨.inl rfl, .inl rfl, .inl rfl, .inl rfl, .inl rfl, .inl rfl, .inr ⟨rfl, trivial⟩, trivial⟩
          · skip
            replace c30 := hid c30
            refine go_retq PM19 (k := 1) (r := some (.inl 0)) (w1 := (SH, dt)) rfl ?_
            exact ⟨rfl, (Or.inr ⟨rfl, trivial⟩)⟩
  exact GO.le (loop24 _ p3 (by first | exact bnd h_p3 (by decide) (by decide) | omega) (by omega) (Nat.lt_succ_self _)) ⟨.inl rfl, .inl rfl, .inl rfl, .inl rfl, .inl rfl, .inl rfl, .inl rfl, trivial⟩
theorem sp_X1_wordOf_1000 (L : Nat) (xs : Nat → Int32) (sio : Option Nat) (d : Nat) (dt : Nat → Nat → Int) (hI : InvC dt)  (p2 : Int) (h_p2 : 0 ≤ p2 ∧ p2 ≤ 500) (p3 : Int) (h_p3 : 0 ≤ p3 ∧ p3 ≤ 502)  : GO (am_XX L xs sio) (d + 5) 18 0 [some (.inr (.inr (some 35))), some (.inr (.inr (some 1000))), some (.inl p2), some (.inl p3), none, none, none] [] (SH, dt) (fun r w2 => w2 = (SH, dt) ∧ ((∃ v : Int, r = some (.inl v) ∧ ((-1) ≤ v ∧ v ≤ 45) ∧ True))) := by
  refine go_toq PM18 (k := 6) (pc' := 9) (L' := [some (.inr (.inr (some 35))), some (.inr (.inr (some 1000))), some (.inl p2), some (.inl p3), some (.inl 0), some (.inl 0), some (.inl 0)]) (st' := []) (w' := (SH, dt)) rfl ?_
  have loop222 : ∀ (k_ : Nat) (l9_4 : Int) (l9_5 : Int) (l9_6 : Int) (i218 : 0 ≤ l9_4 ∧ l9_4 ≤ 45) (i219 : 0 ≤ l9_5 ∧ l9_5 ≤ 45) (i220 : 0 ≤ l9_6 ∧ l9_6 ≤ 45) (i221 : l9_4 ≤ l9_6), (46 - l9_6).toNat < k_ → GO (am_XX L xs sio) (d + 5) 18 9 [some (.inr (.inr (some 35))), some (.inr (.inr (some 1000))), some (.inl p2), some (.inl p3), some (.inl l9_4), some (.inl l9_5), some (.inl l9_6)] [] (SH, dt) (fun r w2 => w2 = (SH, dt) ∧ ((∃ v : Int, r = some (.inl v) ∧ ((-1) ≤ v ∧ v ≤ 45) ∧ True))) := by
    intro k_
    induction k_ with
    | zero => intro l9_4 l9_5 l9_6 i218 i219 i220 i221 hm; exact absurd hm (Nat.not_lt_zero _)
    | succ k_ ih_loop222 =>
      intro l9_4 l9_5 l9_6 i218 i219 i220 i221 hm
      refine go_toq PM18 (k := 2) (pc' := 12) (L' := [some (.inr (.inr (some 35))), some (.inr (.inr (some 1000))), some (.inl p2), some (.inl p3), some (.inl l9_4), some (.inl l9_5), some (.inl l9_6)]) (st' := [.inr (.inr (some 1000)), .inl l9_6]) (w' := (SH, dt)) rfl ?_
      refine go_callq PM18 PM249 (Q' := _) rfl rfl rfl rfl (sp_J0_length_8abf5_1000 L xs sio (d + 3) dt hI   ) ?_
      rintro _ _ ⟨rfl, h223⟩
      refine ⟨rfl, ?_⟩
      rcases h223 with ⟨rfl, h223⟩
      refine go_ifq PM18 (k := 0) (p1 := 70) (p2 := 18) (L' := [some (.inr (.inr (some 35))), some (.inr (.inr (some 1000))), some (.inl p2), some (.inl p3), some (.inl l9_4), some (.inl l9_5), some (.inl l9_6)]) (st' := []) (w' := (SH, dt)) rfl (c_ge (a := l9_6) (b := 45) (by first | exact bnd i220 (by decide) (by decide) | exact ⟨by omega, by omega⟩) ⟨by decide, by decide⟩) (fun c224 => ?_) (fun c224 => ?_)
      · skip
        refine go_retq PM18 (k := 1) (r := some (.inl (-1))) (w1 := (SH, dt)) rfl ?_
        exact ⟨rfl, ⟨_, rfl, ⟨by decide, by decide⟩, trivial⟩⟩
      · skip
        refine go_toq PM18 (k := 2) (pc' := 21) (L' := [some (.inr (.inr (some 35))), some (.inr (.inr (some 1000))), some (.inl p2), some (.inl p3), some (.inl l9_4), some (.inl l9_5), some (.inl l9_6)]) (st' := [.inl l9_6, .inr (.inr (some 1000))]) (w' := (SH, dt)) rfl ?_
        refine go_callq PM18 PM250 (Q' := _) rfl rfl rfl rfl (sp_J0_charAt_5068e_1000 L xs sio (d + 1) dt hI  l9_6 (by first | exact bnd i220 (by decide) (by decide) | exact bndd i220 c224 (by decide) (by decide) | exact ⟨by omega, by omega⟩) ) ?_
        rintro _ _ ⟨rfl, h225⟩
        refine ⟨rfl, ?_⟩
        rcases h225 with ⟨v_h225, rfl, h225r, h225⟩
        refine go_ifq PM18 (k := 1) (p1 := 64) (p2 := 29) (L' := [some (.inr (.inr (some 35))), some (.inr (.inr (some 1000))), some (.inl p2), some (.inl p3), some (.inl l9_4), some (.inl l9_5), some (.inl l9_6)]) (st' := []) (w' := (SH, dt)) rfl (c_ne (a := v_h225) (b := 32) (by first | exact bnd h225r (by decide) (by decide) | exact ⟨by omega, by omega⟩) ⟨by decide, by decide⟩) (fun c226 => ?_) (fun c226 => ?_)
        · skip
          replace c226 := hid c226
          refine go_toq PM18 (k := 2) (pc' := 9) (L' := [some (.inr (.inr (some 35))), some (.inr (.inr (some 1000))), some (.inl p2), some (.inl p3), some (.inl l9_4), some (.inl l9_5), some (.inl (l9_6 + 1))]) (st' := []) (w' := (SH, dt)) rfl ?_
          exact GO.le (ih_loop222 l9_4 l9_5 (l9_6 + 1) (by first | exact bnd i218 (by decide) (by decide) | (first | omega | (have z0_ := unhid c226; omega))) (by first | exact bnd i219 (by decide) (by decide) | (first | omega | (have z0_ := unhid c226; omega))) (by first | exact bndp i220 (by decide) (by decide) | exact bnde i220 c224 (by decide) (by decide) | (first | omega | (have z0_ := unhid c226; omega))) (by (first | omega | (have z0_ := unhid c226; omega))) (by (first | omega | (have z0_ := unhid c226; omega)))) ⟨.inl rfl, .inl rfl, .inl rfl, .inl rfl, .inl rfl, .inl rfl, .inl rfl, trivial⟩
        · skip
          refine go_ifq PM18 (k := 6) (p1 := 55) (p2 := 40) (L' := [some (.inr (.inr (some 35))), some (.inr (.inr (some 1000))), some (.inl p2), some (.inl p3), some (.inl l9_4), some (.inl l9_5), some (.inl l9_6)]) (st' := []) (w' := (SH, dt)) rfl (c_ne (a := l9_6 - l9_5) (b := p3 - p2) ⟨by omega, by omega⟩ ⟨by omega, by omega⟩) (fun c227 => ?_) (fun c227 => ?_)
          · skip
            replace c227 := hid c227
            refine go_toq PM18 (k := 7) (pc' := 9) (L' := [some (.inr (.inr (some 35))), some (.inr (.inr (some 1000))), some (.inl p2), some (.inl p3), some (.inl (l9_4 + 1)), some (.inl (l9_6 + 1)), some (.inl (l9_6 + 1))]) (st' := []) (w' := (SH, dt)) rfl ?_
            exact GO.le (ih_loop222 (l9_4 + 1) (l9_6 + 1) (l9_6 + 1) (by first | exact bndp i218 (by decide) (by decide) | (first | omega | (have z0_ := unhid c227; omega))) (by first | exact bndp i220 (by decide) (by decide) | exact bnde i220 c224 (by decide) (by decide) | (first | omega | (have z0_ := unhid c227; omega))) (by first | exact bndp i220 (by decide) (by decide) | exact bnde i220 c224 (by decide) (by decide) | (first | omega | (have z0_ := unhid c227; omega))) (by (first | omega | (have z0_ := unhid c227; omega))) (by (first | omega | (have z0_ := unhid c227; omega)))) ⟨.inl rfl, .inl rfl, .inl rfl, .inl rfl, .inl rfl, .inl rfl, .inl rfl, trivial⟩
          · skip
            refine go_toq PM18 (k := 5) (pc' := 46) (L' := [some (.inr (.inr (some 35))), some (.inr (.inr (some 1000))), some (.inl p2), some (.inl p3), some (.inl l9_4), some (.inl l9_5), some (.inl l9_6)]) (st' := [.inl p3, .inl p2, .inl l9_5, .inr (.inr (some 1000)), .inr (.inr (some 35))]) (w' := (SH, dt)) rfl ?_
            refine go_callq PM18 PM19 (Q' := _) rfl rfl rfl rfl (sp_X1_isSame_1000 L xs sio (d + 0) dt hI  l9_5 (by first | exact bnd i219 (by decide) (by decide) | exact ⟨by omega, by omega⟩) p2 (by first | exact h_p2 | exact bnd h_p2 (by decide) (by decide) | exact ⟨by omega, by omega⟩) p3 (by first | exact h_p3 | exact bnd h_p3 (by decide) (by decide) | exact ⟨by omega, by omega⟩) ) ?_
            rintro _ _ ⟨rfl, h228⟩
            refine ⟨rfl, ?_⟩
            rcases h228 with ⟨rfl, h228⟩ | ⟨rfl, h228⟩
            · skip
              refine go_retq PM18 (k := 2) (r := some (.inl l9_4)) (w1 := (SH, dt)) rfl ?_
              exact ⟨rfl, ⟨_, rfl, (by first | exact bnd i218 (by decide) (by decide) | exact ⟨by omega, by omega⟩), trivial⟩⟩
            · skip
              refine go_toq PM18 (k := 8) (pc' := 9) (L' := [some (.inr (.inr (some 35))), some (.inr (.inr (some 1000))), some (.inl p2), some (.inl p3), some (.inl (l9_4 + 1)), some (.inl (l9_6 + 1)), some (.inl (l9_6 + 1))]) (st' := []) (w' := (SH, dt)) rfl ?_
              exact GO.le (ih_loop222 (l9_4 + 1) (l9_6 + 1) (l9_6 + 1) (by first | exact bndp i218 (by decide) (by decide) | omega) (by first | exact bndp i220 (by decide) (by decide) | exact bnde i220 c224 (by decide) (by decide) | omega) (by first | exact bndp i220 (by decide) (by decide) | exact bnde i220 c224 (by decide) (by decide) | omega) (by omega) (by omega)) ⟨.inl rfl, .inl rfl, .inl rfl, .inl rfl, .inl rfl, .inl rfl, .inl rfl, trivial⟩
  exact GO.le (loop222 _ 0 0 0 ⟨by decide, by decide⟩ ⟨by decide, by decide⟩ ⟨by decide, by decide⟩ (by omega) (Nat.lt_succ_self _)) ⟨.inl rfl, .inl rfl, .inl rfl, .inl rfl, .inl rfl, .inl rfl, .inl rfl, trivial⟩
theorem sp_X1_isSame_1001 (L : Nat) (xs : Nat → Int32) (sio : Option Nat) (d : Nat) (dt : Nat → Nat → Int) (hI : InvC dt)  (p2 : Int) (h_p2 : 0 ≤ p2 ∧ p2 ≤ 62) (p3 : Int) (h_p3 : 0 ≤ p3 ∧ p3 ≤ 500) (p4 : Int) (h_p4 : 0 ≤ p4 ∧ p4 ≤ 502)  : GO (am_XX L xs sio) (d + 4) 19 0 [some (.inr (.inr (some 35))), some (.inr (.inr (some 1001))), some (.inl p2), some (.inl p3), some (.inl p4), none, none] [] (SH, dt) (fun r w2 => w2 = (SH, dt) ∧ ((r = some (.inl 1) ∧ True) ∨ (r = some (.inl 0) ∧ True))) := by
  refine go_toq PM19 (k := 2) (pc' := 3) (L' := [some (.inr (.inr (some 35))), some (.inr (.inr (some 1001))), some (.inl p2), some (.inl p3), some (.inl p4), some (.inl p3), none]) (st' := []) (w' := (SH, dt)) rfl ?_
  have loop24 : ∀ (k_ : Nat) (l3_5 : Int) (i22 : 0 ≤ l3_5 ∧ l3_5 ≤ 502) (i23 : p3 ≤ l3_5), (503 - l3_5).toNat < k_ → GO (am_XX L xs sio) (d + 4) 19 3 [some (.inr (.inr (some 35))), some (.inr (.inr (some 1001))), some (.inl p2), some (.inl p3), some (.inl p4), some (.inl l3_5), none] [] (SH, dt) (fun r w2 => w2 = (SH, dt) ∧ ((r = some (.inl 1) ∧ True) ∨ (r = some (.inl 0) ∧ True))) := by
    intro k_
    induction k_ with
    | zero => intro l3_5 i22 i23 hm; exact absurd hm (Nat.not_lt_zero _)
    | succ k_ ih_loop24 =>
      intro l3_5 i22 i23 hm
      refine go_ifq PM19 (k := 2) (p1 := 50) (p2 := 10) (L' := [some (.inr (.inr (some 35))), some (.inr (.inr (some 1001))), some (.inl p2), some (.inl p3), some (.inl p4), some (.inl l3_5), none]) (st' := []) (w' := (SH, dt)) rfl (c_ge (a := l3_5) (b := p4) (by first | exact bnd i22 (by decide) (by decide) | exact ⟨by omega, by omega⟩) (by first | exact bnd h_p4 (by decide) (by decide) | exact ⟨by omega, by omega⟩)) (fun c25 => ?_) (fun c25 => ?_)
      · skip
        refine go_retq PM19 (k := 1) (r := some (.inl 1)) (w1 := (SH, dt)) rfl ?_
        exact ⟨rfl, (Or.inl ⟨rfl, trivial⟩)⟩
      · skip
        refine go_toq PM19 (k := 8) (pc' := 21) (L' := [some (.inr (.inr (some 35))), some (.inr (.inr (some 1001))), some (.inl p2), some (.inl p3), some (.inl p4), some (.inl l3_5), some (.inl ((p2 + l3_5) - p3))]) (st' := [.inr (.inr (some 1001)), .inl ((p2 + l3_5) - p3)]) (w' := (SH, dt)) rfl ?_
        refine go_callq PM19 PM249 (Q' := _) rfl rfl rfl rfl (sp_J0_length_8abf5_1001 L xs sio (d + 2) dt hI   ) ?_
        rintro _ _ ⟨rfl, h26⟩
        refine ⟨rfl, ?_⟩
        rcases h26 with ⟨rfl, h26⟩
        refine go_ifq PM19 (k := 0) (p1 := 42) (p2 := 27) (L' := [some (.inr (.inr (some 35))), some (.inr (.inr (some 1001))), some (.inl p2), some (.inl p3), some (.inl p4), some (.inl l3_5), some (.inl ((p2 + l3_5) - p3))]) (st' := []) (w' := (SH, dt)) rfl (c_ge (a := (p2 + l3_5) - p3) (b := 62) ⟨by omega, by omega⟩ ⟨by decide, by decide⟩) (fun c27 => ?_) (fun c27 => ?_)
        · skip
          refine go_retq PM19 (k := 1) (r := some (.inl 0)) (w1 := (SH, dt)) rfl ?_
          exact ⟨rfl, (Or.inr ⟨rfl, trivial⟩)⟩
        · skip
          refine go_toq PM19 (k := 2) (pc' := 30) (L' := [some (.inr (.inr (some 35))), some (.inr (.inr (some 1001))), some (.inl p2), some (.inl p3), some (.inl p4), some (.inl l3_5), some (.inl ((p2 + l3_5) - p3))]) (st' := [.inl ((p2 + l3_5) - p3), .inr (.inr (some 1001))]) (w' := (SH, dt)) rfl ?_
          refine go_callq PM19 PM250 (Q' := _) rfl rfl rfl rfl (sp_J0_charAt_5068e_1001 L xs sio (d + 0) dt hI  ((p2 + l3_5) - p3) ⟨by omega, by omega⟩ ) ?_
          rintro _ _ ⟨rfl, h28⟩
          refine ⟨rfl, ?_⟩
          rcases h28 with ⟨v_h28, rfl, h28r, h28⟩
          refine go_toq PM19 (k := 2) (pc' := 36) (L' := [some (.inr (.inr (some 35))), some (.inr (.inr (some 1001))), some (.inl p2), some (.inl p3), some (.inl p4), some (.inl l3_5), some (.inl ((p2 + l3_5) - p3))]) (st' := [.inl l3_5, .inr (.inr (some 35)), .inl v_h28]) (w' := (SH, dt)) rfl ?_
          refine go_callq PM19 PM10 (Q' := _) rfl rfl rfl rfl (sp_X1_byteAt L xs sio (d + 3) dt hI  l3_5 (by first | exact bnd i22 (by decide) (by decide) | exact bndd i22 c25 (by decide) (by decide) | exact ⟨by omega, by omega⟩) ) ?_
          rintro _ _ ⟨rfl, h29⟩
          refine ⟨rfl, ?_⟩
          rcases h29 with ⟨v_h29, rfl, h29r, h29⟩
          refine go_ifq PM19 (k := 0) (p1 := 44) (p2 := 42) (L' := [some (.inr (.inr (some 35))), some (.inr (.inr (some 1001))), some (.inl p2), some (.inl p3), some (.inl p4), some (.inl l3_5), some (.inl ((p2 + l3_5) - p3))]) (st' := []) (w' := (SH, dt)) rfl (c_eq (a := v_h28) (b := v_h29) (by first | exact bnd h28r (by decide) (by decide) | exact ⟨by omega, by omega⟩) (by first | exact bnd h29r (by decide) (by decide) | exact ⟨by omega, by omega⟩)) (fun c30 => ?_) (fun c30 => ?_)
          · skip
            refine go_toq PM19 (k := 2) (pc' := 3) (L' := [some (.inr (.inr (some 35))), some (.inr (.inr (some 1001))), some (.inl p2), some (.inl p3), some (.inl p4), some (.inl (l3_5 + 1)), some (.inl ((p2 + l3_5) - p3))]) (st' := []) (w' := (SH, dt)) rfl ?_
            exact GO.le (ih_loop24 (l3_5 + 1) (by first | exact bndp i22 (by decide) (by decide) | exact bnde i22 c25 (by decide) (by decide) | omega) (by omega) (by omega)) ⟨.inl rfl, .inl rfl, .inl rfl, .inl rfl, .inl rfl, .inl rfl, .inr ⟨rfl, trivial⟩, trivial⟩
          · skip
            replace c30 := hid c30
            refine go_retq PM19 (k := 1) (r := some (.inl 0)) (w1 := (SH, dt)) rfl ?_
            exact ⟨rfl, (Or.inr ⟨rfl, trivial⟩)⟩
  exact GO.le (loop24 _ p3 (by first | exact bnd h_p3 (by decide) (by decide) | omega) (by omega) (Nat.lt_succ_self _)) ⟨.inl rfl, .inl rfl, .inl rfl, .inl rfl, .inl rfl, .inl rfl, .inl rfl, trivial⟩
theorem sp_X1_wordOf_1001 (L : Nat) (xs : Nat → Int32) (sio : Option Nat) (d : Nat) (dt : Nat → Nat → Int) (hI : InvC dt)  (p2 : Int) (h_p2 : 0 ≤ p2 ∧ p2 ≤ 500) (p3 : Int) (h_p3 : 0 ≤ p3 ∧ p3 ≤ 502)  : GO (am_XX L xs sio) (d + 5) 18 0 [some (.inr (.inr (some 35))), some (.inr (.inr (some 1001))), some (.inl p2), some (.inl p3), none, none, none] [] (SH, dt) (fun r w2 => w2 = (SH, dt) ∧ ((∃ v : Int, r = some (.inl v) ∧ ((-1) ≤ v ∧ v ≤ 62) ∧ True))) := by
  refine go_toq PM18 (k := 6) (pc' := 9) (L' := [some (.inr (.inr (some 35))), some (.inr (.inr (some 1001))), some (.inl p2), some (.inl p3), some (.inl 0), some (.inl 0), some (.inl 0)]) (st' := []) (w' := (SH, dt)) rfl ?_
  have loop236 : ∀ (k_ : Nat) (l9_4 : Int) (l9_5 : Int) (l9_6 : Int) (i232 : 0 ≤ l9_4 ∧ l9_4 ≤ 62) (i233 : 0 ≤ l9_5 ∧ l9_5 ≤ 62) (i234 : 0 ≤ l9_6 ∧ l9_6 ≤ 62) (i235 : l9_4 ≤ l9_6), (63 - l9_6).toNat < k_ → GO (am_XX L xs sio) (d + 5) 18 9 [some (.inr (.inr (some 35))), some (.inr (.inr (some 1001))), some (.inl p2), some (.inl p3), some (.inl l9_4), some (.inl l9_5), some (.inl l9_6)] [] (SH, dt) (fun r w2 => w2 = (SH, dt) ∧ ((∃ v : Int, r = some (.inl v) ∧ ((-1) ≤ v ∧ v ≤ 62) ∧ True))) := by
    intro k_
    induction k_ with
    | zero => intro l9_4 l9_5 l9_6 i232 i233 i234 i235 hm; exact absurd hm (Nat.not_lt_zero _)
    | succ k_ ih_loop236 =>
      intro l9_4 l9_5 l9_6 i232 i233 i234 i235 hm
      refine go_toq PM18 (k := 2) (pc' := 12) (L' := [some (.inr (.inr (some 35))), some (.inr (.inr (some 1001))), some (.inl p2), some (.inl p3), some (.inl l9_4), some (.inl l9_5), some (.inl l9_6)]) (st' := [.inr (.inr (some 1001)), .inl l9_6]) (w' := (SH, dt)) rfl ?_
      refine go_callq PM18 PM249 (Q' := _) rfl rfl rfl rfl (sp_J0_length_8abf5_1001 L xs sio (d + 3) dt hI   ) ?_
      rintro _ _ ⟨rfl, h237⟩
      refine ⟨rfl, ?_⟩
      rcases h237 with ⟨rfl, h237⟩
      refine go_ifq PM18 (k := 0) (p1 := 70) (p2 := 18) (L' := [some (.inr (.inr (some 35))), some (.inr (.inr (some 1001))), some (.inl p2), some (.inl p3), some (.inl l9_4), some (.inl l9_5), some (.inl l9_6)]) (st' := []) (w' := (SH, dt)) rfl (c_ge (a := l9_6) (b := 62) (by first | exact bnd i234 (by decide) (by decide) | exact ⟨by omega, by omega⟩) ⟨by decide, by decide⟩) (fun c238 => ?_) (fun c238 => ?_)
      · skip
        refine go_retq PM18 (k := 1) (r := some (.inl (-1))) (w1 := (SH, dt)) rfl ?_
        exact ⟨rfl, ⟨_, rfl, ⟨by decide, by decide⟩, trivial⟩⟩
      · skip
        refine go_toq PM18 (k := 2) (pc' := 21) (L' := [some (.inr (.inr (some 35))), some (.inr (.inr (some 1001))), some (.inl p2), some (.inl p3), some (.inl l9_4), some (.inl l9_5), some (.inl l9_6)]) (st' := [.inl l9_6, .inr (.inr (some 1001))]) (w' := (SH, dt)) rfl ?_
        refine go_callq PM18 PM250 (Q' := _) rfl rfl rfl rfl (sp_J0_charAt_5068e_1001 L xs sio (d + 1) dt hI  l9_6 (by first | exact bnd i234 (by decide) (by decide) | exact bndd i234 c238 (by decide) (by decide) | exact ⟨by omega, by omega⟩) ) ?_
        rintro _ _ ⟨rfl, h239⟩
        refine ⟨rfl, ?_⟩
        rcases h239 with ⟨v_h239, rfl, h239r, h239⟩
        refine go_ifq PM18 (k := 1) (p1 := 64) (p2 := 29) (L' := [some (.inr (.inr (some 35))), some (.inr (.inr (some 1001))), some (.inl p2), some (.inl p3), some (.inl l9_4), some (.inl l9_5), some (.inl l9_6)]) (st' := []) (w' := (SH, dt)) rfl (c_ne (a := v_h239) (b := 32) (by first | exact bnd h239r (by decide) (by decide) | exact ⟨by omega, by omega⟩) ⟨by decide, by decide⟩) (fun c240 => ?_) (fun c240 => ?_)
        · skip
          replace c240 := hid c240
          refine go_toq PM18 (k := 2) (pc' := 9) (L' := [some (.inr (.inr (some 35))), some (.inr (.inr (some 1001))), some (.inl p2), some (.inl p3), some (.inl l9_4), some (.inl l9_5), some (.inl (l9_6 + 1))]) (st' := []) (w' := (SH, dt)) rfl ?_
          exact GO.le (ih_loop236 l9_4 l9_5 (l9_6 + 1) (by first | exact bnd i232 (by decide) (by decide) | (first | omega | (have z0_ := unhid c240; omega))) (by first | exact bnd i233 (by decide) (by decide) | (first | omega | (have z0_ := unhid c240; omega))) (by first | exact bndp i234 (by decide) (by decide) | exact bnde i234 c238 (by decide) (by decide) | (first | omega | (have z0_ := unhid c240; omega))) (by (first | omega | (have z0_ := unhid c240; omega))) (by (first | omega | (have z0_ := unhid c240; omega)))) ⟨.inl rfl, .inl rfl, .inl rfl, .inl rfl, .inl rfl, .inl rfl, .inl rfl, trivial⟩
        · skip
          refine go_ifq PM18 (k := 6) (p1 := 55) (p2 := 40) (L' := [some (.inr (.inr (some 35))), some (.inr (.inr (some 1001))), some (.inl p2), some (.inl p3), some (.inl l9_4), some (.inl l9_5), some (.inl l9_6)]) (st' := []) (w' := (SH, dt)) rfl (c_ne (a := l9_6 - l9_5) (b := p3 - p2) ⟨by omega, by omega⟩ ⟨by omega, by omega⟩) (fun c241 => ?_) (fun c241 => ?_)
          · skip
            replace c241 := hid c241
            refine go_toq PM18 (k := 7) (pc' := 9) (L' := [some (.inr (.inr (some 35))), some (.inr (.inr (some 1001))), some (.inl p2), some (.inl p3), some (.inl (l9_4 + 1)), some (.inl (l9_6 + 1)), some (.inl (l9_6 + 1))]) (st' := []) (w' := (SH, dt)) rfl ?_
            exact GO.le (ih_loop236 (l9_4 + 1) (l9_6 + 1) (l9_6 + 1) (by first | exact bndp i232 (by decide) (by decide) | (first | omega | (have z0_ := unhid c241; omega))) (by first | exact bndp i234 (by decide) (by decide) | exact bnde i234 c238 (by decide) (by decide) | (first | omega | (have z0_ := unhid c241; omega))) (by first | exact bndp i234 (by decide) (by decide) | exact bnde i234 c238 (by decide) (by decide) | (first | omega | (have z0_ := unhid c241; omega))) (by (first | omega | (have z0_ := unhid c241; omega))) (by (first | omega | (have z0_ := unhid c241; omega)))) ⟨.inl rfl, .inl rfl, .inl rfl, .inl rfl, .inl rfl, .inl rfl, .inl rfl, trivial⟩
          · skip
            refine go_toq PM18 (k := 5) (pc' := 46) (L' := [some (.inr (.inr (some 35))), some (.inr (.inr (some 1001))), some (.inl p2), some (.inl p3), some (.inl l9_4), some (.inl l9_5), some (.inl l9_6)]) (st' := [.inl p3, .inl p2, .inl l9_5, .inr (.inr (some 1001)), .inr (.inr (some 35))]) (w' := (SH, dt)) rfl ?_
            refine go_callq PM18 PM19 (Q' := _) rfl rfl rfl rfl (sp_X1_isSame_1001 L xs sio (d + 0) dt hI  l9_5 (by first | exact bnd i233 (by decide) (by decide) | exact ⟨by omega, by omega⟩) p2 (by first | exact h_p2 | exact bnd h_p2 (by decide) (by decide) | exact ⟨by omega, by omega⟩) p3 (by first | exact h_p3 | exact bnd h_p3 (by decide) (by decide) | exact ⟨by omega, by omega⟩) ) ?_
            rintro _ _ ⟨rfl, h242⟩
            refine ⟨rfl, ?_⟩
            rcases h242 with ⟨rfl, h242⟩ | ⟨rfl, h242⟩
            · skip
              refine go_retq PM18 (k := 2) (r := some (.inl l9_4)) (w1 := (SH, dt)) rfl ?_
              exact ⟨rfl, ⟨_, rfl, (by first | exact bnd i232 (by decide) (by decide) | exact ⟨by omega, by omega⟩), trivial⟩⟩
            · skip
              refine go_toq PM18 (k := 8) (pc' := 9) (L' := [some (.inr (.inr (some 35))), some (.inr (.inr (some 1001))), some (.inl p2), some (.inl p3), some (.inl (l9_4 + 1)), some (.inl (l9_6 + 1)), some (.inl (l9_6 + 1))]) (st' := []) (w' := (SH, dt)) rfl ?_
              exact GO.le (ih_loop236 (l9_4 + 1) (l9_6 + 1) (l9_6 + 1) (by first | exact bndp i232 (by decide) (by decide) | omega) (by first | exact bndp i234 (by decide) (by decide) | exact bnde i234 c238 (by decide) (by decide) | omega) (by first | exact bndp i234 (by decide) (by decide) | exact bnde i234 c238 (by decide) (by decide) | omega) (by omega) (by omega)) ⟨.inl rfl, .inl rfl, .inl rfl, .inl rfl, .inl rfl, .inl rfl, .inl rfl, trivial⟩
  exact GO.le (loop236 _ 0 0 0 ⟨by decide, by decide⟩ ⟨by decide, by decide⟩ ⟨by decide, by decide⟩ (by omega) (Nat.lt_succ_self _)) ⟨.inl rfl, .inl rfl, .inl rfl, .inl rfl, .inl rfl, .inl rfl, .inl rfl, trivial⟩
theorem sp_J1_indexOfChar_4cfef_1002 (L : Nat) (xs : Nat → Int32) (sio : Option Nat) (d : Nat) (dt : Nat → Nat → Int) (hI : InvC dt)  (p2 : Int) (h_p2 : (-2147483648) ≤ p2 ∧ p2 ≤ 2147483647) (p3 : Int) (h_p3 : 0 ≤ p3 ∧ p3 ≤ 10) (p4 : Int) (h_p4 : 0 ≤ p4 ∧ p4 ≤ 10)  : GO (am_XX L xs sio) (d) 259 0 [some (.inr (.inr (some 2002))), some (.inl p2), some (.inl p3), some (.inl p4), none, none] [] (SH, dt) (fun r w2 => w2 = (SH, dt) ∧ ((∃ v : Int, r = some (.inl v) ∧ ((-1) ≤ v ∧ v ≤ 9) ∧ True))) := by
  have r1 := i2b_R p2
  refine go_toq PM259 (k := 5) (pc' := 7) (L' := [some (.inr (.inr (some 2002))), some (.inl p2), some (.inl p3), some (.inl p4), some (.inl (am_i2b p2)), some (.inl p3)]) (st' := []) (w' := (SH, dt)) rfl ?_
  have loop7 : ∀ (k_ : Nat) (l7_5 : Int) (i6 : 0 ≤ l7_5 ∧ l7_5 ≤ 10), (11 - l7_5).toNat < k_ → GO (am_XX L xs sio) (d) 259 7 [some (.inr (.inr (some 2002))), none, none, some (.inl p4), some (.inl (am_i2b p2)), some (.inl l7_5)] [] (SH, dt) (fun r w2 => w2 = (SH, dt) ∧ ((∃ v : Int, r = some (.inl v) ∧ ((-1) ≤ v ∧ v ≤ 9) ∧ True))) := by
    intro k_
    induction k_ with
    | zero => intro l7_5 i6 hm; exact absurd hm (Nat.not_lt_zero _)
    | succ k_ ih_loop7 =>
      intro l7_5 i6 hm
      refine go_ifq PM259 (k := 2) (p1 := 31) (p2 := 13) (L' := [some (.inr (.inr (some 2002))), none, none, some (.inl p4), some (.inl (am_i2b p2)), some (.inl l7_5)]) (st' := []) (w' := (SH, dt)) rfl (c_ge (a := l7_5) (b := p4) (by first | exact bnd i6 (by decide) (by decide) | exact ⟨by omega, by omega⟩) (by first | exact bnd h_p4 (by decide) (by decide) | exact ⟨by omega, by omega⟩)) (fun c8 => ?_) (fun c8 => ?_)
      · skip
        refine go_retq PM259 (k := 1) (r := some (.inl (-1))) (w1 := (SH, dt)) rfl ?_
        exact ⟨rfl, ⟨_, rfl, ⟨by decide, by decide⟩, trivial⟩⟩
      · skip
        refine go_toq PM259 (k := 2) (pc' := 16) (L' := [some (.inr (.inr (some 2002))), none, none, some (.inl p4), some (.inl (am_i2b p2)), some (.inl l7_5)]) (st' := [.inl l7_5, .inr (.inr (some 2002))]) (w' := (SH, dt)) rfl ?_
        have r9 := sby_R 2 (l7_5).toNat
        refine go_smpq PM259 (L' := [some (.inr (.inr (some 2002))), none, none, some (.inl p4), some (.inl (am_i2b p2)), some (.inl l7_5)]) (st' := [.inl ((am_Sby.getD 2 []).getD (l7_5).toNat 0)]) (w' := (SH, dt)) rfl rfl (s_bald (n := 10) (f := fun q => (am_Sby.getD 2 []).getD q 0) rfl (by first | exact bndc i6 c8 (by decide) (by decide) | exact bndx i6 (by decide) (by decide) | exact ⟨by omega, by omega⟩)) ?_
        refine go_ifq PM259 (k := 1) (p1 := 25) (p2 := 22) (L' := [some (.inr (.inr (some 2002))), none, none, some (.inl p4), some (.inl (am_i2b p2)), some (.inl l7_5)]) (st' := []) (w' := (SH, dt)) rfl (c_ne (a := (am_Sby.getD 2 []).getD (l7_5).toNat 0) (b := am_i2b p2) ⟨by omega, by omega⟩ ⟨by omega, by omega⟩) (fun c10 => ?_) (fun c10 => ?_)
        · skip
          replace c10 := hid c10
          refine go_toq PM259 (k := 2) (pc' := 7) (L' := [some (.inr (.inr (some 2002))), none, none, some (.inl p4), some (.inl (am_i2b p2)), some (.inl (l7_5 + 1))]) (st' := []) (w' := (SH, dt)) rfl ?_
          exact GO.le (ih_loop7 (l7_5 + 1) (by first | exact bndp i6 (by decide) (by decide) | exact bnde i6 c8 (by decide) (by decide) | (first | omega | (have z0_ := unhid c10; omega))) (by (first | omega | (have z0_ := unhid c10; omega)))) ⟨.inl rfl, .inl rfl, .inl rfl, .inl rfl, .inl rfl, .inl rfl, trivial⟩
        · skip
          refine go_retq PM259 (k := 1) (r := some (.inl l7_5)) (w1 := (SH, dt)) rfl ?_
          exact ⟨rfl, ⟨_, rfl, (by first | exact bnd i6 (by decide) (by decide) | exact bndd i6 c8 (by decide) (by decide) | exact ⟨by omega, by omega⟩), trivial⟩⟩
  exact GO.le (loop7 _ p3 (by first | exact bnd h_p3 (by decide) (by decide) | omega) (Nat.lt_succ_self _)) ⟨.inl rfl, .inr ⟨rfl, trivial⟩, .inr ⟨rfl, trivial⟩, .inl rfl, .inl rfl, .inl rfl, trivial⟩
theorem sp_J1_indexOf_4cfef_1002 (L : Nat) (xs : Nat → Int32) (sio : Option Nat) (d : Nat) (dt : Nat → Nat → Int) (hI : InvC dt)  (p2 : Int) (h_p2 : (-2147483648) ≤ p2 ∧ p2 ≤ 2147483647) (p4 : Int) (h_p4 : (-2147483648) ≤ p4 ∧ p4 ≤ 2147483647)  : GO (am_XX L xs sio) (d + 1) 258 0 [some (.inr (.inr (some 2002))), some (.inl p2), some (.inl 0), some (.inl p4)] [] (SH, dt) (fun r w2 => w2 = (SH, dt) ∧ ((∃ v : Int, r = some (.inl v) ∧ ((-1) ≤ v ∧ v ≤ 9) ∧ True))) := by
  refine go_toq PM258 (k := 1) (pc' := 1) (L' := [some (.inr (.inr (some 2002))), some (.inl p2), some (.inl 0), some (.inl p4)]) (st' := [.inl p2]) (w' := (SH, dt)) rfl ?_
  refine go_callq PM258 PM257 (Q' := _) rfl rfl rfl rfl (sp_J1_canEncode_9a6ad L xs sio (d + 0) dt hI  p2 (by first | exact h_p2 | exact bnd h_p2 (by decide) (by decide) | exact ⟨by omega, by omega⟩) ) ?_
  rintro _ _ ⟨rfl, h1⟩
  refine ⟨rfl, ?_⟩
  rcases h1 with ⟨rfl, h1⟩ | ⟨rfl, h1⟩
  · skip
    refine go_toq PM258 (k := 3) (pc' := 11) (L' := [some (.inr (.inr (some 2002))), some (.inl p2), some (.inl 0), some (.inl p4)]) (st' := [.inl 0, .inl 0]) (w' := (SH, dt)) rfl ?_
    refine go_callq PM258 PM265 (Q' := _) rfl rfl rfl rfl (sp_J9_max_7cf53 L xs sio (d + 0) dt hI  0 ⟨by decide, by decide⟩ 0 ⟨by decide, by decide⟩ ) ?_
    rintro _ _ ⟨rfl, h2⟩
    refine ⟨rfl, ?_⟩
    rcases h2 with ⟨v_h2, rfl, h2r, h2⟩
    refine go_toq PM258 (k := 4) (pc' := 18) (L' := [some (.inr (.inr (some 2002))), some (.inl p2), some (.inl v_h2), some (.inl p4)]) (st' := [.inl 10, .inl p4]) (w' := (SH, dt)) rfl ?_
    refine go_callq PM258 PM266 (Q' := _) rfl rfl rfl rfl (sp_J9_min_7cf53 L xs sio (d + 0) dt hI  p4 (by first | exact h_p4 | exact bnd h_p4 (by decide) (by decide) | exact ⟨by omega, by omega⟩) 10 ⟨by decide, by decide⟩ ) ?_
    rintro _ _ ⟨rfl, h3⟩
    refine ⟨rfl, ?_⟩
    rcases h3 with ⟨v_h3, rfl, h3r, h3⟩
    refine go_ifq PM258 (k := 3) (p1 := 29) (p2 := 27) (L' := [some (.inr (.inr (some 2002))), some (.inl p2), some (.inl v_h2), some (.inl v_h3)]) (st' := []) (w' := (SH, dt)) rfl (c_lt (a := v_h2) (b := v_h3) (by first | exact bnd h2r (by decide) (by decide) | exact ⟨by omega, by omega⟩) (by first | exact bnd h3r (by decide) (by decide) | exact ⟨by omega, by omega⟩)) (fun c4 => ?_) (fun c4 => ?_)
    · skip
      refine go_toq PM258 (k := 4) (pc' := 33) (L' := [some (.inr (.inr (some 2002))), some (.inl p2), some (.inl v_h2), some (.inl v_h3)]) (st' := [.inl v_h3, .inl v_h2, .inl p2, .inr (.inr (some 2002))]) (w' := (SH, dt)) rfl ?_
      refine go_callq PM258 PM259 (Q' := _) rfl rfl rfl rfl (sp_J1_indexOfChar_4cfef_1002 L xs sio (d + 0) dt hI  p2 (by first | exact h_p2 | exact bnd h_p2 (by decide) (by decide) | exact ⟨by omega, by omega⟩) v_h2 (by first | exact bnd h2r (by decide) (by decide) | exact ⟨by omega, by omega⟩) v_h3 (by first | exact bnd h3r (by decide) (by decide) | exact ⟨by omega, by omega⟩) ) ?_
      rintro _ _ ⟨rfl, h5⟩
      refine ⟨rfl, ?_⟩
      rcases h5 with ⟨v_h5, rfl, h5r, h5⟩
      refine go_retq PM258 (k := 0) (r := some (.inl v_h5)) (w1 := (SH, dt)) rfl ?_
      exact ⟨rfl, ⟨_, rfl, (by first | exact bnd h5r (by decide) (by decide) | exact ⟨by omega, by omega⟩), trivial⟩⟩
    · skip
      refine go_retq PM258 (k := 1) (r := some (.inl (-1))) (w1 := (SH, dt)) rfl ?_
      exact ⟨rfl, ⟨_, rfl, ⟨by decide, by decide⟩, trivial⟩⟩
  · skip
    refine go_retq PM258 (k := 2) (r := some (.inl (-1))) (w1 := (SH, dt)) rfl ?_
    exact ⟨rfl, ⟨_, rfl, ⟨by decide, by decide⟩, trivial⟩⟩
theorem sp_J0_indexOf_7cf53_1002 (L : Nat) (xs : Nat → Int32) (sio : Option Nat) (d : Nat) (dt : Nat → Nat → Int) (hI : InvC dt)  (p1 : Int) (h_p1 : (-2147483648) ≤ p1 ∧ p1 ≤ 2147483647)  : GO (am_XX L xs sio) (d + 2) 252 0 [some (.inr (.inr (some 1002))), some (.inl p1), some (.inl 0)] [] (SH, dt) (fun r w2 => w2 = (SH, dt) ∧ ((∃ v : Int, r = some (.inl v) ∧ ((-1) ≤ v ∧ v ≤ 9) ∧ True))) := by
  refine go_toq PM252 (k := 1) (pc' := 1) (L' := [some (.inr (.inr (some 1002))), some (.inl p1), some (.inl 0)]) (st' := [.inr (.inr (some 1002))]) (w' := (SH, dt)) rfl ?_
  refine go_callq PM252 PM254 (Q' := _) rfl rfl rfl rfl (sp_J0_isLatin1_aae02_1002 L xs sio (d + 1) dt hI   ) ?_
  rintro _ _ ⟨rfl, h1⟩
  refine ⟨rfl, ?_⟩
  rcases h1 with ⟨rfl, h1⟩
  refine go_toq PM252 (k := 6) (pc' := 14) (L' := [some (.inr (.inr (some 1002))), some (.inl p1), some (.inl 0)]) (st' := [.inr (.inr (some 1002)), .inl 0, .inl p1, .inr (.inr (some 2002))]) (w' := (SH, dt)) rfl ?_
  refine go_callq PM252 PM249 (Q' := _) rfl rfl rfl rfl (sp_J0_length_8abf5_1002 L xs sio (d + 0) dt hI   ) ?_
  rintro _ _ ⟨rfl, h2⟩
  refine ⟨rfl, ?_⟩
  rcases h2 with ⟨rfl, h2⟩
  refine go_callq PM252 PM258 (Q' := _) rfl rfl rfl rfl (sp_J1_indexOf_4cfef_1002 L xs sio (d + 0) dt hI  p1 (by first | exact h_p1 | exact bnd h_p1 (by decide) (by decide) | exact ⟨by omega, by omega⟩) 10 ⟨by decide, by decide⟩ ) ?_
  rintro _ _ ⟨rfl, h3⟩
  refine ⟨rfl, ?_⟩
  rcases h3 with ⟨v_h3, rfl, h3r, h3⟩
  refine go_retq PM252 (k := 1) (r := some (.inl v_h3)) (w1 := (SH, dt)) rfl ?_
  exact ⟨rfl, ⟨_, rfl, (by first | exact bnd h3r (by decide) (by decide) | exact ⟨by omega, by omega⟩), trivial⟩⟩
theorem sp_J0_indexOf_0f7a4_1002 (L : Nat) (xs : Nat → Int32) (sio : Option Nat) (d : Nat) (dt : Nat → Nat → Int) (hI : InvC dt)  (p1 : Int) (h_p1 : (-2147483648) ≤ p1 ∧ p1 ≤ 2147483647)  : GO (am_XX L xs sio) (d + 3) 251 0 [some (.inr (.inr (some 1002))), some (.inl p1)] [] (SH, dt) (fun r w2 => w2 = (SH, dt) ∧ ((∃ v : Int, r = some (.inl v) ∧ ((-1) ≤ v ∧ v ≤ 9) ∧ True))) := by
  refine go_toq PM251 (k := 3) (pc' := 3) (L' := [some (.inr (.inr (some 1002))), some (.inl p1)]) (st' := [.inl 0, .inl p1, .inr (.inr (some 1002))]) (w' := (SH, dt)) rfl ?_
  refine go_callq PM251 PM252 (Q' := _) rfl rfl rfl rfl (sp_J0_indexOf_7cf53_1002 L xs sio (d + 0) dt hI  p1 (by first | exact h_p1 | exact bnd h_p1 (by decide) (by decide) | exact ⟨by omega, by omega⟩) ) ?_
  rintro _ _ ⟨rfl, h1⟩
  refine ⟨rfl, ?_⟩
  rcases h1 with ⟨v_h1, rfl, h1r, h1⟩
  refine go_retq PM251 (k := 0) (r := some (.inl v_h1)) (w1 := (SH, dt)) rfl ?_
  exact ⟨rfl, ⟨_, rfl, (by first | exact bnd h1r (by decide) (by decide) | exact ⟨by omega, by omega⟩), trivial⟩⟩
theorem sp_X1_kindOf_1000 (L : Nat) (xs : Nat → Int32) (sio : Option Nat) (d : Nat) (dt : Nat → Nat → Int) (hI : InvC dt)  (p2 : Int) (h_p2 : 0 ≤ p2 ∧ p2 ≤ 500) (p3 : Int) (h_p3 : 0 ≤ p3 ∧ p3 ≤ 502)  : GO (am_XX L xs sio) (d + 6) 16 0 [some (.inr (.inr (some 35))), some (.inr (.inr (some 1000))), some (.inl p2), some (.inl p3), none, none] [] (SH, dt) (fun r w2 => w2 = (SH, dt) ∧ ((∃ v : Int, r = some (.inl v) ∧ (0 ≤ v ∧ v ≤ 1045) ∧ True))) := by
  refine go_toq PM16 (k := 2) (pc' := 2) (L' := [some (.inr (.inr (some 35))), some (.inr (.inr (some 1000))), some (.inl p2), some (.inl p3), none, none]) (st' := [.inl p2, .inr (.inr (some 35))]) (w' := (SH, dt)) rfl ?_
  refine go_callq PM16 PM10 (Q' := _) rfl rfl rfl rfl (sp_X1_byteAt L xs sio (d + 5) dt hI  p2 (by first | exact h_p2 | exact bnd h_p2 (by decide) (by decide) | exact ⟨by omega, by omega⟩) ) ?_
  rintro _ _ ⟨rfl, h1⟩
  refine ⟨rfl, ?_⟩
  rcases h1 with ⟨v_h1, rfl, h1r, h1⟩
  refine go_toq PM16 (k := 2) (pc' := 9) (L' := [some (.inr (.inr (some 35))), some (.inr (.inr (some 1000))), some (.inl p2), some (.inl p3), some (.inl v_h1), none]) (st' := [.inl v_h1]) (w' := (SH, dt)) rfl ?_
  refine go_callq PM16 PM12 (Q' := _) rfl rfl rfl rfl (sp_X1_isDigit L xs sio (d + 5) dt hI  v_h1 (by first | exact bnd h1r (by decide) (by decide) | exact ⟨by omega, by omega⟩) ) ?_
  rintro _ _ ⟨rfl, h2⟩
  refine ⟨rfl, ?_⟩
  rcases h2 with ⟨rfl, h2⟩ | ⟨rfl, h2⟩
  · skip
    refine go_ifq PM16 (k := 5) (p1 := 26) (p2 := 22) (L' := [some (.inr (.inr (some 35))), some (.inr (.inr (some 1000))), some (.inl p2), some (.inl p3), some (.inl v_h1), none]) (st' := []) (w' := (SH, dt)) rfl (c_gt (a := p3 - p2) (b := 4) ⟨by omega, by omega⟩ ⟨by decide, by decide⟩) (fun c4 => ?_) (fun c4 => ?_)
    · skip
      refine go_retq PM16 (k := 1) (r := some (.inl 1)) (w1 := (SH, dt)) rfl ?_
      exact ⟨rfl, ⟨_, rfl, ⟨by decide, by decide⟩, trivial⟩⟩
    · skip
      refine go_retq PM16 (k := 2) (r := some (.inl 2)) (w1 := (SH, dt)) rfl ?_
      exact ⟨rfl, ⟨_, rfl, ⟨by decide, by decide⟩, trivial⟩⟩
  · skip
    refine go_toq PM16 (k := 2) (pc' := 30) (L' := [some (.inr (.inr (some 35))), some (.inr (.inr (some 1000))), some (.inl p2), some (.inl p3), some (.inl v_h1), none]) (st' := [.inl v_h1]) (w' := (SH, dt)) rfl ?_
    refine go_callq PM16 PM13 (Q' := _) rfl rfl rfl rfl (sp_X1_isLetter L xs sio (d + 5) dt hI  v_h1 (by first | exact bnd h1r (by decide) (by decide) | exact ⟨by omega, by omega⟩) ) ?_
    rintro _ _ ⟨rfl, h5⟩
    refine ⟨rfl, ?_⟩
    rcases h5 with ⟨rfl, h5⟩ | ⟨rfl, h5⟩
    · skip
      refine go_toq PM16 (k := 5) (pc' := 40) (L' := [some (.inr (.inr (some 35))), some (.inr (.inr (some 1000))), some (.inl p2), some (.inl p3), some (.inl v_h1), none]) (st' := [.inl p3, .inl p2, .inr (.inr (some 1000)), .inr (.inr (some 35))]) (w' := (SH, dt)) rfl ?_
      refine go_callq PM16 PM18 (Q' := _) rfl rfl rfl rfl (sp_X1_wordOf_1000 L xs sio (d + 0) dt hI  p2 (by first | exact h_p2 | exact bnd h_p2 (by decide) (by decide) | exact ⟨by omega, by omega⟩) p3 (by first | exact h_p3 | exact bnd h_p3 (by decide) (by decide) | exact ⟨by omega, by omega⟩) ) ?_
      rintro _ _ ⟨rfl, h6⟩
      refine ⟨rfl, ?_⟩
      rcases h6 with ⟨v_h6, rfl, h6r, h6⟩
      refine go_ifq PM16 (k := 3) (p1 := 55) (p2 := 51) (L' := [some (.inr (.inr (some 35))), some (.inr (.inr (some 1000))), some (.inl p2), some (.inl p3), some (.inl v_h1), some (.inl v_h6)]) (st' := []) (w' := (SH, dt)) rfl (c_ne (a := v_h6) (b := (-1)) (by first | exact bnd h6r (by decide) (by decide) | exact ⟨by omega, by omega⟩) ⟨by decide, by decide⟩) (fun c8 => ?_) (fun c8 => ?_)
      · skip
        replace c8 := hid c8
        refine go_retq PM16 (k := 3) (r := some (.inl (1000 + v_h6))) (w1 := (SH, dt)) rfl ?_
        exact ⟨rfl, ⟨_, rfl, ⟨by (first | omega | (have z0_ := unhid c8; omega)), by (first | omega | (have z0_ := unhid c8; omega))⟩, trivial⟩⟩
      · skip
        refine go_retq PM16 (k := 2) (r := some (.inl 1)) (w1 := (SH, dt)) rfl ?_
        exact ⟨rfl, ⟨_, rfl, ⟨by decide, by decide⟩, trivial⟩⟩
    · skip
      have r9 := i2c_R v_h1
      refine go_toq PM16 (k := 4) (pc' := 67) (L' := [some (.inr (.inr (some 35))), some (.inr (.inr (some 1000))), some (.inl p2), some (.inl p3), some (.inl v_h1), none]) (st' := [.inl (am_i2c v_h1), .inr (.inr (some 1002))]) (w' := (SH, dt)) rfl ?_
      refine go_callq PM16 PM251 (Q' := _) rfl rfl rfl rfl (sp_J0_indexOf_0f7a4_1002 L xs sio (d + 2) dt hI  (am_i2c v_h1) ⟨by omega, by omega⟩ ) ?_
      rintro _ _ ⟨rfl, h10⟩
      refine ⟨rfl, ?_⟩
      rcases h10 with ⟨v_h10, rfl, h10r, h10⟩
      refine go_ifq PM16 (k := 0) (p1 := 78) (p2 := 73) (L' := [some (.inr (.inr (some 35))), some (.inr (.inr (some 1000))), some (.inl p2), some (.inl p3), some (.inl v_h1), none]) (st' := []) (w' := (SH, dt)) rfl (z_lt (a := v_h10) (by first | exact bnd h10r (by decide) (by decide) | exact ⟨by omega, by omega⟩)) (fun c12 => ?_) (fun c12 => ?_)
      · skip
        refine go_retq PM16 (k := 1) (r := some (.inl 1)) (w1 := (SH, dt)) rfl ?_
        exact ⟨rfl, ⟨_, rfl, ⟨by decide, by decide⟩, trivial⟩⟩
      · skip
        refine go_retq PM16 (k := 2) (r := some (.inl v_h1)) (w1 := (SH, dt)) rfl ?_
        exact ⟨rfl, ⟨_, rfl, (by first | exact bnd h1r (by decide) (by decide) | exact ⟨by omega, by omega⟩), trivial⟩⟩
theorem sp_X1_start_1000 (L : Nat) (xs : Nat → Int32) (sio : Option Nat) (d : Nat) (dt : Nat → Nat → Int) (hI : InvC dt)    : GO (am_XX L xs sio) (d + 7) 9 0 [some (.inr (.inr (some 35))), some (.inr (.inr (some 1000))), none, none] [] (SH, dt) (fun r w2 => ∃ dt2 : Nat → Nat → Int, w2 = (SH, dt2) ∧ InvC dt2 ∧ Fr [35, 37, 38, 39] dt dt2 ∧ ((r = none ∧ (dt2 35 1 = 0)))) := by
  have hF : Fr [35, 37, 38, 39] dt dt := Fr_refl
  refine go_toq PM9 (k := 2) (pc' := 2) (L' := [some (.inr (.inr (some 35))), some (.inr (.inr (some 1000))), none, none]) (st' := [.inl 0, .inr (.inr (some 35))]) (w' := (SH, dt)) rfl ?_
  have hI1 : InvC (u2 dt 35 2 0) := InvC_u2 hI (lo := -2147483648) (hi := 2147483647) rfl rfl rfl (by decide) (by decide)
  have hF2 : Fr [35, 37, 38, 39] dt (u2 dt 35 2 0) := Fr_u2 hF (by decide)
  have w3 : (u2 dt 35 2 0) 35 1 = dt 35 1 := rfl
  refine go_smpq PM9 (L' := [some (.inr (.inr (some 35))), some (.inr (.inr (some 1000))), none, none]) (st' := []) (w' := (SH, (u2 dt 35 2 0))) rfl rfl (s_pf rfl rfl rfl rfl ⟨by decide, by decide⟩) ?_
  refine go_toq PM9 (k := 2) (pc' := 7) (L' := [some (.inr (.inr (some 35))), some (.inr (.inr (some 1000))), none, none]) (st' := [.inl (-1), .inr (.inr (some 35))]) (w' := (SH, (u2 dt 35 2 0))) rfl ?_
  have hI4 : InvC (u2 (u2 dt 35 2 0) 35 3 (-1)) := InvC_u2 hI1 (lo := -2147483648) (hi := 2147483647) rfl rfl rfl (by decide) (by decide)
  have hF5 : Fr [35, 37, 38, 39] dt (u2 (u2 dt 35 2 0) 35 3 (-1)) := Fr_u2 hF2 (by decide)
  have w6 : (u2 (u2 dt 35 2 0) 35 3 (-1)) 35 1 = (u2 dt 35 2 0) 35 1 := rfl
  refine go_smpq PM9 (L' := [some (.inr (.inr (some 35))), some (.inr (.inr (some 1000))), none, none]) (st' := []) (w' := (SH, (u2 (u2 dt 35 2 0) 35 3 (-1)))) rfl rfl (s_pf rfl rfl rfl rfl ⟨by decide, by decide⟩) ?_
  refine go_toq PM9 (k := 2) (pc' := 12) (L' := [some (.inr (.inr (some 35))), some (.inr (.inr (some 1000))), none, none]) (st' := [.inl 0, .inr (.inr (some 35))]) (w' := (SH, (u2 (u2 dt 35 2 0) 35 3 (-1)))) rfl ?_
  have hI7 : InvC (u2 (u2 (u2 dt 35 2 0) 35 3 (-1)) 35 7 0) := InvC_u2 hI4 (lo := 0) (hi := 501) rfl rfl rfl (by decide) (by decide)
  have hF8 : Fr [35, 37, 38, 39] dt (u2 (u2 (u2 dt 35 2 0) 35 3 (-1)) 35 7 0) := Fr_u2 hF5 (by decide)
  have w9 : (u2 (u2 (u2 dt 35 2 0) 35 3 (-1)) 35 7 0) 35 1 = (u2 (u2 dt 35 2 0) 35 3 (-1)) 35 1 := rfl
  refine go_smpq PM9 (L' := [some (.inr (.inr (some 35))), some (.inr (.inr (some 1000))), none, none]) (st' := []) (w' := (SH, (u2 (u2 (u2 dt 35 2 0) 35 3 (-1)) 35 7 0))) rfl rfl (s_pf rfl rfl rfl rfl ⟨by decide, by decide⟩) ?_
  refine go_toq PM9 (k := 2) (pc' := 17) (L' := [some (.inr (.inr (some 35))), some (.inr (.inr (some 1000))), none, none]) (st' := [.inl 0, .inr (.inr (some 35))]) (w' := (SH, (u2 (u2 (u2 dt 35 2 0) 35 3 (-1)) 35 7 0))) rfl ?_
  have hI10 : InvC (u2 (u2 (u2 (u2 dt 35 2 0) 35 3 (-1)) 35 7 0) 35 8 0) := InvC_u2 hI7 (lo := -2147483648) (hi := 2147483647) rfl rfl rfl (by decide) (by decide)
  have hF11 : Fr [35, 37, 38, 39] dt (u2 (u2 (u2 (u2 dt 35 2 0) 35 3 (-1)) 35 7 0) 35 8 0) := Fr_u2 hF8 (by decide)
  have w12 : (u2 (u2 (u2 (u2 dt 35 2 0) 35 3 (-1)) 35 7 0) 35 8 0) 35 1 = (u2 (u2 (u2 dt 35 2 0) 35 3 (-1)) 35 7 0) 35 1 := rfl
  refine go_smpq PM9 (L' := [some (.inr (.inr (some 35))), some (.inr (.inr (some 1000))), none, none]) (st' := []) (w' := (SH, (u2 (u2 (u2 (u2 dt 35 2 0) 35 3 (-1)) 35 7 0) 35 8 0))) rfl rfl (s_pf rfl rfl rfl rfl ⟨by decide, by decide⟩) ?_
  refine go_toq PM9 (k := 2) (pc' := 22) (L' := [some (.inr (.inr (some 35))), some (.inr (.inr (some 1000))), none, none]) (st' := [.inl 0, .inr (.inr (some 35))]) (w' := (SH, (u2 (u2 (u2 (u2 dt 35 2 0) 35 3 (-1)) 35 7 0) 35 8 0))) rfl ?_
  have hI13 : InvC (u2 (u2 (u2 (u2 (u2 dt 35 2 0) 35 3 (-1)) 35 7 0) 35 8 0) 35 12 0) := InvC_u2 hI10 (lo := 0) (hi := 500) rfl rfl rfl (by decide) (by decide)
  have hF14 : Fr [35, 37, 38, 39] dt (u2 (u2 (u2 (u2 (u2 dt 35 2 0) 35 3 (-1)) 35 7 0) 35 8 0) 35 12 0) := Fr_u2 hF11 (by decide)
  have w15 : (u2 (u2 (u2 (u2 (u2 dt 35 2 0) 35 3 (-1)) 35 7 0) 35 8 0) 35 12 0) 35 1 = (u2 (u2 (u2 (u2 dt 35 2 0) 35 3 (-1)) 35 7 0) 35 8 0) 35 1 := rfl
  refine go_smpq PM9 (L' := [some (.inr (.inr (some 35))), some (.inr (.inr (some 1000))), none, none]) (st' := []) (w' := (SH, (u2 (u2 (u2 (u2 (u2 dt 35 2 0) 35 3 (-1)) 35 7 0) 35 8 0) 35 12 0))) rfl rfl (s_pf rfl rfl rfl rfl ⟨by decide, by decide⟩) ?_
  refine go_toq PM9 (k := 2) (pc' := 27) (L' := [some (.inr (.inr (some 35))), some (.inr (.inr (some 1000))), some (.inl 0), none]) (st' := []) (w' := (SH, (u2 (u2 (u2 (u2 (u2 dt 35 2 0) 35 3 (-1)) 35 7 0) 35 8 0) 35 12 0))) rfl ?_
  have loop50 : ∀ (k_ : Nat) (l27_2 : Int) (dt46 : Nat → Nat → Int) (hI47 : InvC dt46) (hF48 : Fr [35, 37, 38, 39] dt dt46) (i49 : 0 ≤ l27_2 ∧ l27_2 ≤ 501), (510 - l27_2).toNat < k_ → GO (am_XX L xs sio) (d + 7) 9 27 [some (.inr (.inr (some 35))), some (.inr (.inr (some 1000))), some (.inl l27_2), none] [] (SH, dt46) (fun r w2 => ∃ dt2 : Nat → Nat → Int, w2 = (SH, dt2) ∧ InvC dt2 ∧ Fr [35, 37, 38, 39] dt dt2 ∧ ((r = none ∧ (dt2 35 1 = 0)))) := by
    intro k_
    induction k_ with
    | zero => intro l27_2 dt46 hI47 hF48 i49 hm; exact absurd hm (Nat.not_lt_zero _)
    | succ k_ ih_loop50 =>
      intro l27_2 dt46 hI47 hF48 i49 hm
      have r51 : 0 ≤ dt46 35 1 ∧ dt46 35 1 ≤ 500 := InvC_get hI47 35 1 rfl rfl
      refine go_ifq PM9 (k := 3) (p1 := 81) (p2 := 35) (L' := [some (.inr (.inr (some 35))), some (.inr (.inr (some 1000))), some (.inl l27_2), none]) (st' := []) (w' := (SH, dt46)) rfl (c_ge (a := l27_2) (b := dt46 35 1) (by first | exact bnd i49 (by decide) (by decide) | exact ⟨by omega, by omega⟩) (by first | exact bnd r51 (by decide) (by decide) | exact ⟨by omega, by omega⟩)) (fun c65 => ?_) (fun c65 => ?_)
      · skip
        refine go_toq PM9 (k := 5) (pc' := 88) (L' := [some (.inr (.inr (some 35))), some (.inr (.inr (some 1000))), some (.inl l27_2), none]) (st' := [.inl (dt46 35 1), .inl 0, .inl 0, .inr (.inr (some 35))]) (w' := (SH, dt46)) rfl ?_
        refine go_callq PM9 PM15 (Q' := _) rfl rfl rfl rfl (sp_X1_addToken L xs sio (d + 6) dt46 hI47  0 ⟨by decide, by decide⟩ 0 (dt46 35 1) (by first | exact bnd r51 (by decide) (by decide) | exact ⟨by omega, by omega⟩) ) ?_
        rintro _ _ ⟨dt67, rfl, hI68, hF69, h66⟩
        refine ⟨rfl, ?_⟩
        have hF70 : Fr [35, 37, 38, 39] dt dt67 := Fr_tr hF48 hF69 (by decide)
        rcases h66 with ⟨rfl, h66⟩
        refine go_toq PM9 (k := 2) (pc' := 93) (L' := [some (.inr (.inr (some 35))), some (.inr (.inr (some 1000))), some (.inl l27_2), none]) (st' := [.inl 0, .inr (.inr (some 35))]) (w' := (SH, dt67)) rfl ?_
        have hI71 : InvC (u2 dt67 35 1 0) := InvC_u2 hI68 (lo := 0) (hi := 500) rfl rfl rfl (by decide) (by decide)
        have hF72 : Fr [35, 37, 38, 39] dt (u2 dt67 35 1 0) := Fr_u2 hF70 (by decide)
        have w73 : (u2 dt67 35 1 0) 35 1 = 0 := rfl
        refine go_smpq PM9 (L' := [some (.inr (.inr (some 35))), some (.inr (.inr (some 1000))), some (.inl l27_2), none]) (st' := []) (w' := (SH, (u2 dt67 35 1 0))) rfl rfl (s_pf rfl rfl rfl rfl ⟨by decide, by decide⟩) ?_
        refine go_retq PM9 (k := 0) (r := none) (w1 := (SH, (u2 dt67 35 1 0))) rfl ?_
        exact ⟨(u2 dt67 35 1 0), rfl, hI71, hF72, ⟨rfl, by first | exact True.intro | with_reducible assumption | rfl | omega | trivial⟩⟩
      · skip
        refine go_toq PM9 (k := 2) (pc' := 37) (L' := [some (.inr (.inr (some 35))), some (.inr (.inr (some 1000))), some (.inl l27_2), none]) (st' := [.inl l27_2, .inr (.inr (some 35))]) (w' := (SH, dt46)) rfl ?_
        refine go_callq PM9 PM14 (Q' := _) rfl rfl rfl rfl (sp_X1_runEnd L xs sio (d + 5) dt46 hI47  l27_2 (by first | exact bnd i49 (by decide) (by decide) | exact bndd i49 c65 (by decide) (by decide) | exact ⟨by omega, by omega⟩) ) ?_
        rintro _ _ ⟨rfl, h74⟩
        refine ⟨rfl, ?_⟩
        rcases h74 with ⟨v_h74, rfl, h74r, h74⟩
        refine go_toq PM9 (k := 3) (pc' := 43) (L' := [some (.inr (.inr (some 35))), some (.inr (.inr (some 1000))), some (.inl l27_2), some (.inl v_h74)]) (st' := [.inl l27_2, .inr (.inr (some 35))]) (w' := (SH, dt46)) rfl ?_
        refine go_callq PM9 PM10 (Q' := _) rfl rfl rfl rfl (sp_X1_byteAt L xs sio (d + 6) dt46 hI47  l27_2 (by first | exact bnd i49 (by decide) (by decide) | exact bndd i49 c65 (by decide) (by decide) | exact ⟨by omega, by omega⟩) ) ?_
        rintro _ _ ⟨rfl, h75⟩
        refine ⟨rfl, ?_⟩
        rcases h75 with ⟨v_h75, rfl, h75r, h75⟩
        refine go_callq PM9 PM11 (Q' := _) rfl rfl rfl rfl (sp_X1_isBlank L xs sio (d + 6) dt46 hI47  v_h75 (by first | exact bnd h75r (by decide) (by decide) | exact ⟨by omega, by omega⟩) ) ?_
        rintro _ _ ⟨rfl, h76⟩
        refine ⟨rfl, ?_⟩
        rcases h76 with ⟨rfl, h76⟩ | ⟨rfl, h76⟩
        · skip
          refine go_toq PM9 (k := 5) (pc' := 74) (L' := [some (.inr (.inr (some 35))), some (.inr (.inr (some 1000))), some (.inl l27_2), some (.inl v_h74)]) (st' := [.inl (l27_2 + 1), .inl v_h74]) (w' := (SH, dt46)) rfl ?_
          refine go_callq PM9 PM265 (Q' := _) rfl rfl rfl rfl (sp_J9_max_7cf53 L xs sio (d + 6) dt46 hI47  v_h74 (by first | exact bnd h74r (by decide) (by decide) | exact ⟨by omega, by omega⟩) (l27_2 + 1) (by first | exact bndp i49 (by decide) (by decide) | exact ⟨by omega, by omega⟩) ) ?_
          rintro _ _ ⟨rfl, h77⟩
          refine ⟨rfl, ?_⟩
          rcases h77 with ⟨v_h77, rfl, h77r, h77⟩
          refine go_toq PM9 (k := 2) (pc' := 27) (L' := [some (.inr (.inr (some 35))), some (.inr (.inr (some 1000))), some (.inl v_h77), some (.inl v_h74)]) (st' := []) (w' := (SH, dt46)) rfl ?_
          exact GO.le (ih_loop50 v_h77 dt46 hI47 hF48 (by first | exact bnd h77r (by decide) (by decide) | omega) (by omega)) ⟨.inl rfl, .inl rfl, .inl rfl, .inr ⟨rfl, trivial⟩, trivial⟩
        · skip
          refine go_toq PM9 (k := 6) (pc' := 57) (L' := [some (.inr (.inr (some 35))), some (.inr (.inr (some 1000))), some (.inl l27_2), some (.inl v_h74)]) (st' := [.inl v_h74, .inl l27_2, .inr (.inr (some 1000)), .inr (.inr (some 35)), .inr (.inr (some 35))]) (w' := (SH, dt46)) rfl ?_
          refine go_callq PM9 PM16 (Q' := _) rfl rfl rfl rfl (sp_X1_kindOf_1000 L xs sio (d + 0) dt46 hI47  l27_2 (by first | exact bnd i49 (by decide) (by decide) | exact bndd i49 c65 (by decide) (by decide) | exact ⟨by omega, by omega⟩) v_h74 (by first | exact bnd h74r (by decide) (by decide) | exact ⟨by omega, by omega⟩) ) ?_
          rintro _ _ ⟨rfl, h85⟩
          refine ⟨rfl, ?_⟩
          rcases h85 with ⟨v_h85, rfl, h85r, h85⟩
          refine go_toq PM9 (k := 3) (pc' := 63) (L' := [some (.inr (.inr (some 35))), some (.inr (.inr (some 1000))), some (.inl l27_2), some (.inl v_h74)]) (st' := [.inl v_h74, .inl l27_2, .inr (.inr (some 35)), .inl v_h85, .inr (.inr (some 35))]) (w' := (SH, dt46)) rfl ?_
          refine go_callq PM9 PM17 (Q' := _) rfl rfl rfl rfl (sp_X1_numberOf L xs sio (d + 5) dt46 hI47  l27_2 (by first | exact bnd i49 (by decide) (by decide) | exact bndd i49 c65 (by decide) (by decide) | exact ⟨by omega, by omega⟩) v_h74 (by first | exact bnd h74r (by decide) (by decide) | exact ⟨by omega, by omega⟩) ) ?_
          rintro _ _ ⟨rfl, h86⟩
          refine ⟨rfl, ?_⟩
          rcases h86 with ⟨v_h86, rfl, h86r, h86⟩
          refine go_toq PM9 (k := 1) (pc' := 67) (L' := [some (.inr (.inr (some 35))), some (.inr (.inr (some 1000))), some (.inl l27_2), some (.inl v_h74)]) (st' := [.inl l27_2, .inl v_h86, .inl v_h85, .inr (.inr (some 35))]) (w' := (SH, dt46)) rfl ?_
          refine go_callq PM9 PM15 (Q' := _) rfl rfl rfl rfl (sp_X1_addToken L xs sio (d + 6) dt46 hI47  v_h85 (by first | exact bnd h85r (by decide) (by decide) | exact ⟨by omega, by omega⟩) v_h86 l27_2 (by first | exact bnd i49 (by decide) (by decide) | exact bndd i49 c65 (by decide) (by decide) | exact ⟨by omega, by omega⟩) ) ?_
          rintro _ _ ⟨dt88, rfl, hI89, hF90, h87⟩
          refine ⟨rfl, ?_⟩
          have hF91 : Fr [35, 37, 38, 39] dt dt88 := Fr_tr hF48 hF90 (by decide)
          rcases h87 with ⟨rfl, h87⟩
          refine go_toq PM9 (k := 4) (pc' := 74) (L' := [some (.inr (.inr (some 35))), some (.inr (.inr (some 1000))), some (.inl l27_2), some (.inl v_h74)]) (st' := [.inl (l27_2 + 1), .inl v_h74]) (w' := (SH, dt88)) rfl ?_
          refine go_callq PM9 PM265 (Q' := _) rfl rfl rfl rfl (sp_J9_max_7cf53 L xs sio (d + 6) dt88 hI89  v_h74 (by first | exact bnd h74r (by decide) (by decide) | exact ⟨by omega, by omega⟩) (l27_2 + 1) (by first | exact bndp i49 (by decide) (by decide) | exact ⟨by omega, by omega⟩) ) ?_
          rintro _ _ ⟨rfl, h92⟩
          refine ⟨rfl, ?_⟩
          rcases h92 with ⟨v_h92, rfl, h92r, h92⟩
          refine go_toq PM9 (k := 2) (pc' := 27) (L' := [some (.inr (.inr (some 35))), some (.inr (.inr (some 1000))), some (.inl v_h92), some (.inl v_h74)]) (st' := []) (w' := (SH, dt88)) rfl ?_
          exact GO.le (ih_loop50 v_h92 dt88 hI89 hF91 (by first | exact bnd h92r (by decide) (by decide) | omega) (by omega)) ⟨.inl rfl, .inl rfl, .inl rfl, .inr ⟨rfl, trivial⟩, trivial⟩
  exact GO.le (loop50 _ 0 (u2 (u2 (u2 (u2 (u2 dt 35 2 0) 35 3 (-1)) 35 7 0) 35 8 0) 35 12 0) hI13 hF14 ⟨by decide, by decide⟩ (Nat.lt_succ_self _)) ⟨.inl rfl, .inl rfl, .inl rfl, .inl rfl, trivial⟩
theorem sp_X1_kindOf_1001 (L : Nat) (xs : Nat → Int32) (sio : Option Nat) (d : Nat) (dt : Nat → Nat → Int) (hI : InvC dt)  (p2 : Int) (h_p2 : 0 ≤ p2 ∧ p2 ≤ 500) (p3 : Int) (h_p3 : 0 ≤ p3 ∧ p3 ≤ 502)  : GO (am_XX L xs sio) (d + 6) 16 0 [some (.inr (.inr (some 35))), some (.inr (.inr (some 1001))), some (.inl p2), some (.inl p3), none, none] [] (SH, dt) (fun r w2 => w2 = (SH, dt) ∧ ((∃ v : Int, r = some (.inl v) ∧ (0 ≤ v ∧ v ≤ 1062) ∧ True))) := by
  refine go_toq PM16 (k := 2) (pc' := 2) (L' := [some (.inr (.inr (some 35))), some (.inr (.inr (some 1001))), some (.inl p2), some (.inl p3), none, none]) (st' := [.inl p2, .inr (.inr (some 35))]) (w' := (SH, dt)) rfl ?_
  refine go_callq PM16 PM10 (Q' := _) rfl rfl rfl rfl (sp_X1_byteAt L xs sio (d + 5) dt hI  p2 (by first | exact h_p2 | exact bnd h_p2 (by decide) (by decide) | exact ⟨by omega, by omega⟩) ) ?_
  rintro _ _ ⟨rfl, h1⟩
  refine ⟨rfl, ?_⟩
  rcases h1 with ⟨v_h1, rfl, h1r, h1⟩
  refine go_toq PM16 (k := 2) (pc' := 9) (L' := [some (.inr (.inr (some 35))), some (.inr (.inr (some 1001))), some (.inl p2), some (.inl p3), some (.inl v_h1), none]) (st' := [.inl v_h1]) (w' := (SH, dt)) rfl ?_
  refine go_callq PM16 PM12 (Q' := _) rfl rfl rfl rfl (sp_X1_isDigit L xs sio (d + 5) dt hI  v_h1 (by first | exact bnd h1r (by decide) (by decide) | exact ⟨by omega, by omega⟩) ) ?_
  rintro _ _ ⟨rfl, h2⟩
  refine ⟨rfl, ?_⟩
  rcases h2 with ⟨rfl, h2⟩ | ⟨rfl, h2⟩
  · skip
    refine go_ifq PM16 (k := 5) (p1 := 26) (p2 := 22) (L' := [some (.inr (.inr (some 35))), some (.inr (.inr (some 1001))), some (.inl p2), some (.inl p3), some (.inl v_h1), none]) (st' := []) (w' := (SH, dt)) rfl (c_gt (a := p3 - p2) (b := 4) ⟨by omega, by omega⟩ ⟨by decide, by decide⟩) (fun c4 => ?_) (fun c4 => ?_)
    · skip
      refine go_retq PM16 (k := 1) (r := some (.inl 1)) (w1 := (SH, dt)) rfl ?_
      exact ⟨rfl, ⟨_, rfl, ⟨by decide, by decide⟩, trivial⟩⟩
    · skip
      refine go_retq PM16 (k := 2) (r := some (.inl 2)) (w1 := (SH, dt)) rfl ?_
      exact ⟨rfl, ⟨_, rfl, ⟨by decide, by decide⟩, trivial⟩⟩
  · skip
    refine go_toq PM16 (k := 2) (pc' := 30) (L' := [some (.inr (.inr (some 35))), some (.inr (.inr (some 1001))), some (.inl p2), some (.inl p3), some (.inl v_h1), none]) (st' := [.inl v_h1]) (w' := (SH, dt)) rfl ?_
    refine go_callq PM16 PM13 (Q' := _) rfl rfl rfl rfl (sp_X1_isLetter L xs sio (d + 5) dt hI  v_h1 (by first | exact bnd h1r (by decide) (by decide) | exact ⟨by omega, by omega⟩) ) ?_
    rintro _ _ ⟨rfl, h5⟩
    refine ⟨rfl, ?_⟩
    rcases h5 with ⟨rfl, h5⟩ | ⟨rfl, h5⟩
    · skip
      refine go_toq PM16 (k := 5) (pc' := 40) (L' := [some (.inr (.inr (some 35))), some (.inr (.inr (some 1001))), some (.inl p2), some (.inl p3), some (.inl v_h1), none]) (st' := [.inl p3, .inl p2, .inr (.inr (some 1001)), .inr (.inr (some 35))]) (w' := (SH, dt)) rfl ?_
      refine go_callq PM16 PM18 (Q' := _) rfl rfl rfl rfl (sp_X1_wordOf_1001 L xs sio (d + 0) dt hI  p2 (by first | exact h_p2 | exact bnd h_p2 (by decide) (by decide) | exact ⟨by omega, by omega⟩) p3 (by first | exact h_p3 | exact bnd h_p3 (by decide) (by decide) | exact ⟨by omega, by omega⟩) ) ?_
      rintro _ _ ⟨rfl, h6⟩
      refine ⟨rfl, ?_⟩
      rcases h6 with ⟨v_h6, rfl, h6r, h6⟩
      refine go_ifq PM16 (k := 3) (p1 := 55) (p2 := 51) (L' := [some (.inr (.inr (some 35))), some (.inr (.inr (some 1001))), some (.inl p2), some (.inl p3), some (.inl v_h1), some (.inl v_h6)]) (st' := []) (w' := (SH, dt)) rfl (c_ne (a := v_h6) (b := (-1)) (by first | exact bnd h6r (by decide) (by decide) | exact ⟨by omega, by omega⟩) ⟨by decide, by decide⟩) (fun c8 => ?_) (fun c8 => ?_)
      · skip
        replace c8 := hid c8
        refine go_retq PM16 (k := 3) (r := some (.inl (1000 + v_h6))) (w1 := (SH, dt)) rfl ?_
        exact ⟨rfl, ⟨_, rfl, ⟨by (first | omega | (have z0_ := unhid c8; omega)), by (first | omega | (have z0_ := unhid c8; omega))⟩, trivial⟩⟩
      · skip
        refine go_retq PM16 (k := 2) (r := some (.inl 1)) (w1 := (SH, dt)) rfl ?_
        exact ⟨rfl, ⟨_, rfl, ⟨by decide, by decide⟩, trivial⟩⟩
    · skip
      have r9 := i2c_R v_h1
      refine go_toq PM16 (k := 4) (pc' := 67) (L' := [some (.inr (.inr (some 35))), some (.inr (.inr (some 1001))), some (.inl p2), some (.inl p3), some (.inl v_h1), none]) (st' := [.inl (am_i2c v_h1), .inr (.inr (some 1002))]) (w' := (SH, dt)) rfl ?_
      refine go_callq PM16 PM251 (Q' := _) rfl rfl rfl rfl (sp_J0_indexOf_0f7a4_1002 L xs sio (d + 2) dt hI  (am_i2c v_h1) ⟨by omega, by omega⟩ ) ?_
      rintro _ _ ⟨rfl, h10⟩
      refine ⟨rfl, ?_⟩
      rcases h10 with ⟨v_h10, rfl, h10r, h10⟩
      refine go_ifq PM16 (k := 0) (p1 := 78) (p2 := 73) (L' := [some (.inr (.inr (some 35))), some (.inr (.inr (some 1001))), some (.inl p2), some (.inl p3), some (.inl v_h1), none]) (st' := []) (w' := (SH, dt)) rfl (z_lt (a := v_h10) (by first | exact bnd h10r (by decide) (by decide) | exact ⟨by omega, by omega⟩)) (fun c12 => ?_) (fun c12 => ?_)
      · skip
        refine go_retq PM16 (k := 1) (r := some (.inl 1)) (w1 := (SH, dt)) rfl ?_
        exact ⟨rfl, ⟨_, rfl, ⟨by decide, by decide⟩, trivial⟩⟩
      · skip
        refine go_retq PM16 (k := 2) (r := some (.inl v_h1)) (w1 := (SH, dt)) rfl ?_
        exact ⟨rfl, ⟨_, rfl, (by first | exact bnd h1r (by decide) (by decide) | exact ⟨by omega, by omega⟩), trivial⟩⟩
theorem sp_X1_start_1001 (L : Nat) (xs : Nat → Int32) (sio : Option Nat) (d : Nat) (dt : Nat → Nat → Int) (hI : InvC dt)    : GO (am_XX L xs sio) (d + 7) 9 0 [some (.inr (.inr (some 35))), some (.inr (.inr (some 1001))), none, none] [] (SH, dt) (fun r w2 => ∃ dt2 : Nat → Nat → Int, w2 = (SH, dt2) ∧ InvC dt2 ∧ Fr [35, 37, 38, 39] dt dt2 ∧ ((r = none ∧ (dt2 35 1 = 0)))) := by
  have hF : Fr [35, 37, 38, 39] dt dt := Fr_refl
  refine go_toq PM9 (k := 2) (pc' := 2) (L' := [some (.inr (.inr (some 35))), some (.inr (.inr (some 1001))), none, none]) (st' := [.inl 0, .inr (.inr (some 35))]) (w' := (SH, dt)) rfl ?_
  have hI1 : InvC (u2 dt 35 2 0) := InvC_u2 hI (lo := -2147483648) (hi := 2147483647) rfl rfl rfl (by decide) (by decide)
  have hF2 : Fr [35, 37, 38, 39] dt (u2 dt 35 2 0) := Fr_u2 hF (by decide)
  have w3 : (u2 dt 35 2 0) 35 1 = dt 35 1 := rfl
  refine go_smpq PM9 (L' := [some (.inr (.inr (some 35))), some (.inr (.inr (some 1001))), none, none]) (st' := []) (w' := (SH, (u2 dt 35 2 0))) rfl rfl (s_pf rfl rfl rfl rfl ⟨by decide, by decide⟩) ?_
  refine go_toq PM9 (k := 2) (pc' := 7) (L' := [some (.inr (.inr (some 35))), some (.inr (.inr (some 1001))), none, none]) (st' := [.inl (-1), .inr (.inr (some 35))]) (w' := (SH, (u2 dt 35 2 0))) rfl ?_
  have hI4 : InvC (u2 (u2 dt 35 2 0) 35 3 (-1)) := InvC_u2 hI1 (lo := -2147483648) (hi := 2147483647) rfl rfl rfl (by decide) (by decide)
  have hF5 : Fr [35, 37, 38, 39] dt (u2 (u2 dt 35 2 0) 35 3 (-1)) := Fr_u2 hF2 (by decide)
  have w6 : (u2 (u2 dt 35 2 0) 35 3 (-1)) 35 1 = (u2 dt 35 2 0) 35 1 := rfl
  refine go_smpq PM9 (L' := [some (.inr (.inr (some 35))), some (.inr (.inr (some 1001))), none, none]) (st' := []) (w' := (SH, (u2 (u2 dt 35 2 0) 35 3 (-1)))) rfl rfl (s_pf rfl rfl rfl rfl ⟨by decide, by decide⟩) ?_
  refine go_toq PM9 (k := 2) (pc' := 12) (L' := [some (.inr (.inr (some 35))), some (.inr (.inr (some 1001))), none, none]) (st' := [.inl 0, .inr (.inr (some 35))]) (w' := (SH, (u2 (u2 dt 35 2 0) 35 3 (-1)))) rfl ?_
  have hI7 : InvC (u2 (u2 (u2 dt 35 2 0) 35 3 (-1)) 35 7 0) := InvC_u2 hI4 (lo := 0) (hi := 501) rfl rfl rfl (by decide) (by decide)
  have hF8 : Fr [35, 37, 38, 39] dt (u2 (u2 (u2 dt 35 2 0) 35 3 (-1)) 35 7 0) := Fr_u2 hF5 (by decide)
  have w9 : (u2 (u2 (u2 dt 35 2 0) 35 3 (-1)) 35 7 0) 35 1 = (u2 (u2 dt 35 2 0) 35 3 (-1)) 35 1 := rfl
  refine go_smpq PM9 (L' := [some (.inr (.inr (some 35))), some (.inr (.inr (some 1001))), none, none]) (st' := []) (w' := (SH, (u2 (u2 (u2 dt 35 2 0) 35 3 (-1)) 35 7 0))) rfl rfl (s_pf rfl rfl rfl rfl ⟨by decide, by decide⟩) ?_
  refine go_toq PM9 (k := 2) (pc' := 17) (L' := [some (.inr (.inr (some 35))), some (.inr (.inr (some 1001))), none, none]) (st' := [.inl 0, .inr (.inr (some 35))]) (w' := (SH, (u2 (u2 (u2 dt 35 2 0) 35 3 (-1)) 35 7 0))) rfl ?_
  have hI10 : InvC (u2 (u2 (u2 (u2 dt 35 2 0) 35 3 (-1)) 35 7 0) 35 8 0) := InvC_u2 hI7 (lo := -2147483648) (hi := 2147483647) rfl rfl rfl (by decide) (by decide)
  have hF11 : Fr [35, 37, 38, 39] dt (u2 (u2 (u2 (u2 dt 35 2 0) 35 3 (-1)) 35 7 0) 35 8 0) := Fr_u2 hF8 (by decide)
  have w12 : (u2 (u2 (u2 (u2 dt 35 2 0) 35 3 (-1)) 35 7 0) 35 8 0) 35 1 = (u2 (u2 (u2 dt 35 2 0) 35 3 (-1)) 35 7 0) 35 1 := rfl
  refine go_smpq PM9 (L' := [some (.inr (.inr (some 35))), some (.inr (.inr (some 1001))), none, none]) (st' := []) (w' := (SH, (u2 (u2 (u2 (u2 dt 35 2 0) 35 3 (-1)) 35 7 0) 35 8 0))) rfl rfl (s_pf rfl rfl rfl rfl ⟨by decide, by decide⟩) ?_
  refine go_toq PM9 (k := 2) (pc' := 22) (L' := [some (.inr (.inr (some 35))), some (.inr (.inr (some 1001))), none, none]) (st' := [.inl 0, .inr (.inr (some 35))]) (w' := (SH, (u2 (u2 (u2 (u2 dt 35 2 0) 35 3 (-1)) 35 7 0) 35 8 0))) rfl ?_
  have hI13 : InvC (u2 (u2 (u2 (u2 (u2 dt 35 2 0) 35 3 (-1)) 35 7 0) 35 8 0) 35 12 0) := InvC_u2 hI10 (lo := 0) (hi := 500) rfl rfl rfl (by decide) (by decide)
  have hF14 : Fr [35, 37, 38, 39] dt (u2 (u2 (u2 (u2 (u2 dt 35 2 0) 35 3 (-1)) 35 7 0) 35 8 0) 35 12 0) := Fr_u2 hF11 (by decide)
  have w15 : (u2 (u2 (u2 (u2 (u2 dt 35 2 0) 35 3 (-1)) 35 7 0) 35 8 0) 35 12 0) 35 1 = (u2 (u2 (u2 (u2 dt 35 2 0) 35 3 (-1)) 35 7 0) 35 8 0) 35 1 := rfl
  refine go_smpq PM9 (L' := [some (.inr (.inr (some 35))), some (.inr (.inr (some 1001))), none, none]) (st' := []) (w' := (SH, (u2 (u2 (u2 (u2 (u2 dt 35 2 0) 35 3 (-1)) 35 7 0) 35 8 0) 35 12 0))) rfl rfl (s_pf rfl rfl rfl rfl ⟨by decide, by decide⟩) ?_
  refine go_toq PM9 (k := 2) (pc' := 27) (L' := [some (.inr (.inr (some 35))), some (.inr (.inr (some 1001))), some (.inl 0), none]) (st' := []) (w' := (SH, (u2 (u2 (u2 (u2 (u2 dt 35 2 0) 35 3 (-1)) 35 7 0) 35 8 0) 35 12 0))) rfl ?_
  have loop50 : ∀ (k_ : Nat) (l27_2 : Int) (dt46 : Nat → Nat → Int) (hI47 : InvC dt46) (hF48 : Fr [35, 37, 38, 39] dt dt46) (i49 : 0 ≤ l27_2 ∧ l27_2 ≤ 501), (510 - l27_2).toNat < k_ → GO (am_XX L xs sio) (d + 7) 9 27 [some (.inr (.inr (some 35))), some (.inr (.inr (some 1001))), some (.inl l27_2), none] [] (SH, dt46) (fun r w2 => ∃ dt2 : Nat → Nat → Int, w2 = (SH, dt2) ∧ InvC dt2 ∧ Fr [35, 37, 38, 39] dt dt2 ∧ ((r = none ∧ (dt2 35 1 = 0)))) := by
    intro k_
    induction k_ with
    | zero => intro l27_2 dt46 hI47 hF48 i49 hm; exact absurd hm (Nat.not_lt_zero _)
    | succ k_ ih_loop50 =>
      intro l27_2 dt46 hI47 hF48 i49 hm
      have r51 : 0 ≤ dt46 35 1 ∧ dt46 35 1 ≤ 500 := InvC_get hI47 35 1 rfl rfl
      refine go_ifq PM9 (k := 3) (p1 := 81) (p2 := 35) (L' := [some (.inr (.inr (some 35))), some (.inr (.inr (some 1001))), some (.inl l27_2), none]) (st' := []) (w' := (SH, dt46)) rfl (c_ge (a := l27_2) (b := dt46 35 1) (by first | exact bnd i49 (by decide) (by decide) | exact ⟨by omega, by omega⟩) (by first | exact bnd r51 (by decide) (by decide) | exact ⟨by omega, by omega⟩)) (fun c65 => ?_) (fun c65 => ?_)
      · skip
        refine go_toq PM9 (k := 5) (pc' := 88) (L' := [some (.inr (.inr (some 35))), some (.inr (.inr (some 1001))), some (.inl l27_2), none]) (st' := [.inl (dt46 35 1), .inl 0, .inl 0, .inr (.inr (some 35))]) (w' := (SH, dt46)) rfl ?_
        refine go_callq PM9 PM15 (Q' := _) rfl rfl rfl rfl (sp_X1_addToken L xs sio (d + 6) dt46 hI47  0 ⟨by decide, by decide⟩ 0 (dt46 35 1) (by first | exact bnd r51 (by decide) (by decide) | exact ⟨by omega, by omega⟩) ) ?_
        rintro _ _ ⟨dt67, rfl, hI68, hF69, h66⟩
        refine ⟨rfl, ?_⟩
        have hF70 : Fr [35, 37, 38, 39] dt dt67 := Fr_tr hF48 hF69 (by decide)
        rcases h66 with ⟨rfl, h66⟩
        refine go_toq PM9 (k := 2) (pc' := 93) (L' := [some (.inr (.inr (some 35))), some (.inr (.inr (some 1001))), some (.inl l27_2), none]) (st' := [.inl 0, .inr (.inr (some 35))]) (w' := (SH, dt67)) rfl ?_
        have hI71 : InvC (u2 dt67 35 1 0) := InvC_u2 hI68 (lo := 0) (hi := 500) rfl rfl rfl (by decide) (by decide)
        have hF72 : Fr [35, 37, 38, 39] dt (u2 dt67 35 1 0) := Fr_u2 hF70 (by decide)
        have w73 : (u2 dt67 35 1 0) 35 1 = 0 := rfl
        refine go_smpq PM9 (L' := [some (.inr (.inr (some 35))), some (.inr (.inr (some 1001))), some (.inl l27_2), none]) (st' := []) (w' := (SH, (u2 dt67 35 1 0))) rfl rfl (s_pf rfl rfl rfl rfl ⟨by decide, by decide⟩) ?_
        refine go_retq PM9 (k := 0) (r := none) (w1 := (SH, (u2 dt67 35 1 0))) rfl ?_
        exact ⟨(u2 dt67 35 1 0), rfl, hI71, hF72, ⟨rfl, by first | exact True.intro | with_reducible assumption | rfl | omega | trivial⟩⟩
      · skip
        refine go_toq PM9 (k := 2) (pc' := 37) (L' := [some (.inr (.inr (some 35))), some (.inr (.inr (some 1001))), some (.inl l27_2), none]) (st' := [.inl l27_2, .inr (.inr (some 35))]) (w' := (SH, dt46)) rfl ?_
        refine go_callq PM9 PM14 (Q' := _) rfl rfl rfl rfl (sp_X1_runEnd L xs sio (d + 5) dt46 hI47  l27_2 (by first | exact bnd i49 (by decide) (by decide) | exact bndd i49 c65 (by decide) (by decide) | exact ⟨by omega, by omega⟩) ) ?_
        rintro _ _ ⟨rfl, h74⟩
        refine ⟨rfl, ?_⟩
        rcases h74 with ⟨v_h74, rfl, h74r, h74⟩
        refine go_toq PM9 (k := 3) (pc' := 43) (L' := [some (.inr (.inr (some 35))), some (.inr (.inr (some 1001))), some (.inl l27_2), some (.inl v_h74)]) (st' := [.inl l27_2, .inr (.inr (some 35))]) (w' := (SH, dt46)) rfl ?_
        refine go_callq PM9 PM10 (Q' := _) rfl rfl rfl rfl (sp_X1_byteAt L xs sio (d + 6) dt46 hI47  l27_2 (by first | exact bnd i49 (by decide) (by decide) | exact bndd i49 c65 (by decide) (by decide) | exact ⟨by omega, by omega⟩) ) ?_
        rintro _ _ ⟨rfl, h75⟩
        refine ⟨rfl, ?_⟩
        rcases h75 with ⟨v_h75, rfl, h75r, h75⟩
        refine go_callq PM9 PM11 (Q' := _) rfl rfl rfl rfl (sp_X1_isBlank L xs sio (d + 6) dt46 hI47  v_h75 (by first | exact bnd h75r (by decide) (by decide) | exact ⟨by omega, by omega⟩) ) ?_
        rintro _ _ ⟨rfl, h76⟩
        refine ⟨rfl, ?_⟩
        rcases h76 with ⟨rfl, h76⟩ | ⟨rfl, h76⟩
        · skip
          refine go_toq PM9 (k := 5) (pc' := 74) (L' := [some (.inr (.inr (some 35))), some (.inr (.inr (some 1001))), some (.inl l27_2), some (.inl v_h74)]) (st' := [.inl (l27_2 + 1), .inl v_h74]) (w' := (SH, dt46)) rfl ?_
          refine go_callq PM9 PM265 (Q' := _) rfl rfl rfl rfl (sp_J9_max_7cf53 L xs sio (d + 6) dt46 hI47  v_h74 (by first | exact bnd h74r (by decide) (by decide) | exact ⟨by omega, by omega⟩) (l27_2 + 1) (by first | exact bndp i49 (by decide) (by decide) | exact ⟨by omega, by omega⟩) ) ?_
          rintro _ _ ⟨rfl, h77⟩
          refine ⟨rfl, ?_⟩
          rcases h77 with ⟨v_h77, rfl, h77r, h77⟩
          refine go_toq PM9 (k := 2) (pc' := 27) (L' := [some (.inr (.inr (some 35))), some (.inr (.inr (some 1001))), some (.inl v_h77), some (.inl v_h74)]) (st' := []) (w' := (SH, dt46)) rfl ?_
          exact GO.le (ih_loop50 v_h77 dt46 hI47 hF48 (by first | exact bnd h77r (by decide) (by decide) | omega) (by omega)) ⟨.inl rfl, .inl rfl, .inl rfl, .inr ⟨rfl, trivial⟩, trivial⟩
        · skip
          refine go_toq PM9 (k := 6) (pc' := 57) (L' := [some (.inr (.inr (some 35))), some (.inr (.inr (some 1001))), some (.inl l27_2), some (.inl v_h74)]) (st' := [.inl v_h74, .inl l27_2, .inr (.inr (some 1001)), .inr (.inr (some 35)), .inr (.inr (some 35))]) (w' := (SH, dt46)) rfl ?_
          refine go_callq PM9 PM16 (Q' := _) rfl rfl rfl rfl (sp_X1_kindOf_1001 L xs sio (d + 0) dt46 hI47  l27_2 (by first | exact bnd i49 (by decide) (by decide) | exact bndd i49 c65 (by decide) (by decide) | exact ⟨by omega, by omega⟩) v_h74 (by first | exact bnd h74r (by decide) (by decide) | exact ⟨by omega, by omega⟩) ) ?_
          rintro _ _ ⟨rfl, h85⟩
          refine ⟨rfl, ?_⟩
          rcases h85 with ⟨v_h85, rfl, h85r, h85⟩
          refine go_toq PM9 (k := 3) (pc' := 63) (L' := [some (.inr (.inr (some 35))), some (.inr (.inr (some 1001))), some (.inl l27_2), some (.inl v_h74)]) (st' := [.inl v_h74, .inl l27_2, .inr (.inr (some 35)), .inl v_h85, .inr (.inr (some 35))]) (w' := (SH, dt46)) rfl ?_
          refine go_callq PM9 PM17 (Q' := _) rfl rfl rfl rfl (sp_X1_numberOf L xs sio (d + 5) dt46 hI47  l27_2 (by first | exact bnd i49 (by decide) (by decide) | exact bndd i49 c65 (by decide) (by decide) | exact ⟨by omega, by omega⟩) v_h74 (by first | exact bnd h74r (by decide) (by decide) | exact ⟨by omega, by omega⟩) ) ?_
          rintro _ _ ⟨rfl, h86⟩
          refine ⟨rfl, ?_⟩
          rcases h86 with ⟨v_h86, rfl, h86r, h86⟩
          refine go_toq PM9 (k := 1) (pc' := 67) (L' := [some (.inr (.inr (some 35))), some (.inr (.inr (some 1001))), some (.inl l27_2), some (.inl v_h74)]) (st' := [.inl l27_2, .inl v_h86, .inl v_h85, .inr (.inr (some 35))]) (w' := (SH, dt46)) rfl ?_
          refine go_callq PM9 PM15 (Q' := _) rfl rfl rfl rfl (sp_X1_addToken L xs sio (d + 6) dt46 hI47  v_h85 (by first | exact bnd h85r (by decide) (by decide) | exact ⟨by omega, by omega⟩) v_h86 l27_2 (by first | exact bnd i49 (by decide) (by decide) | exact bndd i49 c65 (by decide) (by decide) | exact ⟨by omega, by omega⟩) ) ?_
          rintro _ _ ⟨dt88, rfl, hI89, hF90, h87⟩
          refine ⟨rfl, ?_⟩
          have hF91 : Fr [35, 37, 38, 39] dt dt88 := Fr_tr hF48 hF90 (by decide)
          rcases h87 with ⟨rfl, h87⟩
          refine go_toq PM9 (k := 4) (pc' := 74) (L' := [some (.inr (.inr (some 35))), some (.inr (.inr (some 1001))), some (.inl l27_2), some (.inl v_h74)]) (st' := [.inl (l27_2 + 1), .inl v_h74]) (w' := (SH, dt88)) rfl ?_
          refine go_callq PM9 PM265 (Q' := _) rfl rfl rfl rfl (sp_J9_max_7cf53 L xs sio (d + 6) dt88 hI89  v_h74 (by first | exact bnd h74r (by decide) (by decide) | exact ⟨by omega, by omega⟩) (l27_2 + 1) (by first | exact bndp i49 (by decide) (by decide) | exact ⟨by omega, by omega⟩) ) ?_
          rintro _ _ ⟨rfl, h92⟩
          refine ⟨rfl, ?_⟩
          rcases h92 with ⟨v_h92, rfl, h92r, h92⟩
          refine go_toq PM9 (k := 2) (pc' := 27) (L' := [some (.inr (.inr (some 35))), some (.inr (.inr (some 1001))), some (.inl v_h92), some (.inl v_h74)]) (st' := []) (w' := (SH, dt88)) rfl ?_
          exact GO.le (ih_loop50 v_h92 dt88 hI89 hF91 (by first | exact bnd h92r (by decide) (by decide) | omega) (by omega)) ⟨.inl rfl, .inl rfl, .inl rfl, .inr ⟨rfl, trivial⟩, trivial⟩
  exact GO.le (loop50 _ 0 (u2 (u2 (u2 (u2 (u2 dt 35 2 0) 35 3 (-1)) 35 7 0) 35 8 0) 35 12 0) hI13 hF14 ⟨by decide, by decide⟩ (Nat.lt_succ_self _)) ⟨.inl rfl, .inl rfl, .inl rfl, .inl rfl, trivial⟩
theorem sp_X1_token (L : Nat) (xs : Nat → Int32) (sio : Option Nat) (d : Nat) (dt : Nat → Nat → Int) (hI : InvC dt)    : GO (am_XX L xs sio) (d) 20 0 [some (.inr (.inr (some 35)))] [] (SH, dt) (fun r w2 => w2 = (SH, dt) ∧ ((∃ v : Int, r = some (.inl v) ∧ (0 ≤ v ∧ v ≤ 1100) ∧ True))) := by
  have r1 : (-2147483648) ≤ dt 35 8 ∧ dt 35 8 ≤ 2147483647 := InvC_get hI 35 8 rfl rfl
  have j6 :  GO (am_XX L xs sio) (d) 20 31 [some (.inr (.inr (some 35)))] [.inl 0] (SH, dt) (fun r w2 => w2 = (SH, dt) ∧ ((∃ v : Int, r = some (.inl v) ∧ (0 ≤ v ∧ v ≤ 1100) ∧ True))) := by
    skip
    refine go_retq PM20 (k := 0) (r := some (.inl 0)) (w1 := (SH, dt)) rfl ?_
    exact ⟨rfl, ⟨_, rfl, ⟨by decide, by decide⟩, trivial⟩⟩
  refine go_ifq PM20 (k := 2) (p1 := 30) (p2 := 7) (L' := [some (.inr (.inr (some 35)))]) (st' := []) (w' := (SH, dt)) rfl (z_lt (a := dt 35 8) (by first | exact bnd r1 (by decide) (by decide) | exact ⟨by omega, by omega⟩)) (fun c7 => ?_) (fun c7 => ?_)
  · skip
    refine go_toq PM20 (k := 1) (pc' := 31) (L' := [some (.inr (.inr (some 35)))]) (st' := [.inl 0]) (w' := (SH, dt)) rfl ?_
    exact GO.le (j6 ) ⟨.inl rfl, trivial⟩
  · skip
    have r8 : 0 ≤ dt 35 7 ∧ dt 35 7 ≤ 501 := InvC_get hI 35 7 rfl rfl
    refine go_ifq PM20 (k := 4) (p1 := 30) (p2 := 18) (L' := [some (.inr (.inr (some 35)))]) (st' := []) (w' := (SH, dt)) rfl (c_ge (a := dt 35 8) (b := dt 35 7) (by first | exact bnd r1 (by decide) (by decide) | exact ⟨by omega, by omega⟩) (by first | exact bnd r8 (by decide) (by decide) | exact ⟨by omega, by omega⟩)) (fun c9 => ?_) (fun c9 => ?_)
    · skip
      refine go_toq PM20 (k := 1) (pc' := 31) (L' := [some (.inr (.inr (some 35)))]) (st' := [.inl 0]) (w' := (SH, dt)) rfl ?_
      exact GO.le (j6 ) ⟨.inl rfl, trivial⟩
    · skip
      refine go_toq PM20 (k := 4) (pc' := 26) (L' := [some (.inr (.inr (some 35)))]) (st' := [.inl (dt 35 8), .inr (.inr (some 37))]) (w' := (SH, dt)) rfl ?_
      have r10 : 0 ≤ dt 37 ((dt 35 8).toNat) ∧ dt 37 ((dt 35 8).toNat) ≤ 1100 := InvC_get hI 37 ((dt 35 8).toNat) rfl rfl
      refine go_smpq PM20 (L' := [some (.inr (.inr (some 35)))]) (st' := [.inl (dt 37 ((dt 35 8).toNat))]) (w' := (SH, dt)) rfl rfl (s_iald (n := 501) (f := dt 37) rfl (by first | exact bndc r1 c9 (by decide) (by decide) | exact bndx r1 (by decide) (by decide) | exact ⟨by omega, by omega⟩)) ?_
      refine go_retq PM20 (k := 1) (r := some (.inl (dt 37 ((dt 35 8).toNat)))) (w1 := (SH, dt)) rfl ?_
      exact ⟨rfl, ⟨_, rfl, (by first | exact bnd r10 (by decide) (by decide) | exact ⟨by omega, by omega⟩), trivial⟩⟩
theorem sp_X1_nextNumber (L : Nat) (xs : Nat → Int32) (sio : Option Nat) (d : Nat) (dt : Nat → Nat → Int) (hI : InvC dt)    : GO (am_XX L xs sio) (d) 23 0 [some (.inr (.inr (some 35)))] [] (SH, dt) (fun r w2 => w2 = (SH, dt) ∧ ((∃ v : Int, r = some (.inl v) ∧ ((-2147483648) ≤ v ∧ v ≤ 2147483647) ∧ True))) := by
  have r1 : (-2147483648) ≤ dt 35 8 ∧ dt 35 8 ≤ 2147483647 := InvC_get hI 35 8 rfl rfl
  have j8 :  GO (am_XX L xs sio) (d) 23 44 [some (.inr (.inr (some 35)))] [.inl (-1)] (SH, dt) (fun r w2 => w2 = (SH, dt) ∧ ((∃ v : Int, r = some (.inl v) ∧ ((-2147483648) ≤ v ∧ v ≤ 2147483647) ∧ True))) := by
    skip
    refine go_retq PM23 (k := 0) (r := some (.inl (-1))) (w1 := (SH, dt)) rfl ?_
    exact ⟨rfl, ⟨_, rfl, ⟨by decide, by decide⟩, trivial⟩⟩
  refine go_ifq PM23 (k := 2) (p1 := 43) (p2 := 7) (L' := [some (.inr (.inr (some 35)))]) (st' := []) (w' := (SH, dt)) rfl (z_lt (a := dt 35 8) (by first | exact bnd r1 (by decide) (by decide) | exact ⟨by omega, by omega⟩)) (fun c9 => ?_) (fun c9 => ?_)
  · skip
    refine go_toq PM23 (k := 1) (pc' := 44) (L' := [some (.inr (.inr (some 35)))]) (st' := [.inl (-1)]) (w' := (SH, dt)) rfl ?_
    exact GO.le (j8 ) ⟨.inl rfl, trivial⟩
  · skip
    have r10 : 0 ≤ dt 35 7 ∧ dt 35 7 ≤ 501 := InvC_get hI 35 7 rfl rfl
    refine go_ifq PM23 (k := 4) (p1 := 43) (p2 := 18) (L' := [some (.inr (.inr (some 35)))]) (st' := []) (w' := (SH, dt)) rfl (c_ge (a := dt 35 8) (b := dt 35 7) (by first | exact bnd r1 (by decide) (by decide) | exact ⟨by omega, by omega⟩) (by first | exact bnd r10 (by decide) (by decide) | exact ⟨by omega, by omega⟩)) (fun c11 => ?_) (fun c11 => ?_)
    · skip
      refine go_toq PM23 (k := 1) (pc' := 44) (L' := [some (.inr (.inr (some 35)))]) (st' := [.inl (-1)]) (w' := (SH, dt)) rfl ?_
      exact GO.le (j8 ) ⟨.inl rfl, trivial⟩
    · skip
      refine go_toq PM23 (k := 4) (pc' := 26) (L' := [some (.inr (.inr (some 35)))]) (st' := [.inl (dt 35 8), .inr (.inr (some 37))]) (w' := (SH, dt)) rfl ?_
      have r12 : 0 ≤ dt 37 ((dt 35 8).toNat) ∧ dt 37 ((dt 35 8).toNat) ≤ 1100 := InvC_get hI 37 ((dt 35 8).toNat) rfl rfl
      refine go_smpq PM23 (L' := [some (.inr (.inr (some 35)))]) (st' := [.inl (dt 37 ((dt 35 8).toNat))]) (w' := (SH, dt)) rfl rfl (s_iald (n := 501) (f := dt 37) rfl (by first | exact bndc r1 c11 (by decide) (by decide) | exact bndx r1 (by decide) (by decide) | exact ⟨by omega, by omega⟩)) ?_
      refine go_ifq PM23 (k := 1) (p1 := 43) (p2 := 31) (L' := [some (.inr (.inr (some 35)))]) (st' := []) (w' := (SH, dt)) rfl (c_ne (a := dt 37 ((dt 35 8).toNat)) (b := 2) (by first | exact bnd r12 (by decide) (by decide) | exact ⟨by omega, by omega⟩) ⟨by decide, by decide⟩) (fun c13 => ?_) (fun c13 => ?_)
      · skip
        replace c13 := hid c13
        refine go_toq PM23 (k := 1) (pc' := 44) (L' := [some (.inr (.inr (some 35)))]) (st' := [.inl (-1)]) (w' := (SH, dt)) rfl ?_
        exact GO.le (j8 ) ⟨.inl rfl, trivial⟩
      · skip
        refine go_toq PM23 (k := 4) (pc' := 39) (L' := [some (.inr (.inr (some 35)))]) (st' := [.inl (dt 35 8), .inr (.inr (some 38))]) (w' := (SH, dt)) rfl ?_
        have r14 : (-2147483648) ≤ dt 38 ((dt 35 8).toNat) ∧ dt 38 ((dt 35 8).toNat) ≤ 2147483647 := InvC_get hI 38 ((dt 35 8).toNat) rfl rfl
        refine go_smpq PM23 (L' := [some (.inr (.inr (some 35)))]) (st' := [.inl (dt 38 ((dt 35 8).toNat))]) (w' := (SH, dt)) rfl rfl (s_iald (n := 501) (f := dt 38) rfl (by first | exact bndc r1 c11 (by decide) (by decide) | exact bndx r1 (by decide) (by decide) | exact ⟨by omega, by omega⟩)) ?_
        refine go_retq PM23 (k := 1) (r := some (.inl (dt 38 ((dt 35 8).toNat)))) (w1 := (SH, dt)) rfl ?_
        exact ⟨rfl, ⟨_, rfl, (by first | exact bnd r14 (by decide) (by decide) | exact ⟨by omega, by omega⟩), trivial⟩⟩
theorem sp_X1_fail (L : Nat) (xs : Nat → Int32) (sio : Option Nat) (d : Nat) (dt : Nat → Nat → Int) (hI : InvC dt)  (p1 : Int) (h_p1 : (-2147483648) ≤ p1 ∧ p1 ≤ 2147483647)  : GO (am_XX L xs sio) (d) 21 0 [some (.inr (.inr (some 35))), some (.inl p1)] [] (SH, dt) (fun r w2 => ∃ dt2 : Nat → Nat → Int, w2 = (SH, dt2) ∧ InvC dt2 ∧ Fr [35] dt dt2 ∧ ((r = none ∧ (dt2 35 1 = dt 35 1)))) := by
  have hF : Fr [35] dt dt := Fr_refl
  have r1 : (-2147483648) ≤ dt 35 2 ∧ dt 35 2 ≤ 2147483647 := InvC_get hI 35 2 rfl rfl
  have j18 : ∀ (j18_d : Nat → Nat → Int) (j18_hI : InvC j18_d) (j18_hF : Fr [35] dt j18_d) (i19 : j18_d 35 1 = dt 35 1), GO (am_XX L xs sio) (d) 21 47 [some (.inr (.inr (some 35))), none] [] (SH, j18_d) (fun r w2 => ∃ dt2 : Nat → Nat → Int, w2 = (SH, dt2) ∧ InvC dt2 ∧ Fr [35] dt dt2 ∧ ((r = none ∧ (dt2 35 1 = dt 35 1)))) := by
    intro j18_d j18_hI j18_hF i19
    have r20 : 0 ≤ j18_d 35 7 ∧ j18_d 35 7 ≤ 501 := InvC_get j18_hI 35 7 rfl rfl
    refine go_ifq PM21 (k := 3) (p1 := 64) (p2 := 55) (L' := [some (.inr (.inr (some 35))), none]) (st' := [.inr (.inr (some 35))]) (w' := (SH, j18_d)) rfl (z_le (a := j18_d 35 7) (by first | exact bnd r20 (by decide) (by decide) | exact ⟨by omega, by omega⟩)) (fun c22 => ?_) (fun c22 => ?_)
    · skip
      refine go_toq PM21 (k := 1) (pc' := 65) (L' := [some (.inr (.inr (some 35))), none]) (st' := [.inl 0, .inr (.inr (some 35))]) (w' := (SH, j18_d)) rfl ?_
      have hI23 : InvC (u2 j18_d 35 8 0) := InvC_u2 j18_hI (lo := -2147483648) (hi := 2147483647) rfl rfl rfl (by decide) (by decide)
      have hF24 : Fr [35] dt (u2 j18_d 35 8 0) := Fr_u2 j18_hF (by decide)
      have w25 : (u2 j18_d 35 8 0) 35 1 = j18_d 35 1 := rfl
      refine go_smpq PM21 (L' := [some (.inr (.inr (some 35))), none]) (st' := []) (w' := (SH, (u2 j18_d 35 8 0))) rfl rfl (s_pf rfl rfl rfl rfl ⟨by decide, by decide⟩) ?_
      refine go_retq PM21 (k := 0) (r := none) (w1 := (SH, (u2 j18_d 35 8 0))) rfl ?_
      exact ⟨(u2 j18_d 35 8 0), rfl, hI23, hF24, ⟨rfl, by first | exact True.intro | with_reducible assumption | rfl | omega | trivial⟩⟩
    · skip
      refine go_toq PM21 (k := 5) (pc' := 65) (L' := [some (.inr (.inr (some 35))), none]) (st' := [.inl ((j18_d 35 7) - 1), .inr (.inr (some 35))]) (w' := (SH, j18_d)) rfl ?_
      have hI26 : InvC (u2 j18_d 35 8 ((j18_d 35 7) - 1)) := InvC_u2 j18_hI (lo := -2147483648) (hi := 2147483647) rfl rfl rfl (by omega) (by omega)
      have hF27 : Fr [35] dt (u2 j18_d 35 8 ((j18_d 35 7) - 1)) := Fr_u2 j18_hF (by decide)
      have w28 : (u2 j18_d 35 8 ((j18_d 35 7) - 1)) 35 1 = j18_d 35 1 := rfl
      refine go_smpq PM21 (L' := [some (.inr (.inr (some 35))), none]) (st' := []) (w' := (SH, (u2 j18_d 35 8 ((j18_d 35 7) - 1)))) rfl rfl (s_pf rfl rfl rfl rfl ⟨by omega, by omega⟩) ?_
      refine go_retq PM21 (k := 0) (r := none) (w1 := (SH, (u2 j18_d 35 8 ((j18_d 35 7) - 1)))) rfl ?_
      exact ⟨(u2 j18_d 35 8 ((j18_d 35 7) - 1)), rfl, hI26, hF27, ⟨rfl, by first | exact True.intro | with_reducible assumption | rfl | omega | trivial⟩⟩
  refine go_ifq PM21 (k := 2) (p1 := 47) (p2 := 7) (L' := [some (.inr (.inr (some 35))), some (.inl p1)]) (st' := []) (w' := (SH, dt)) rfl (z_ne (a := dt 35 2) (by first | exact bnd r1 (by decide) (by decide) | exact ⟨by omega, by omega⟩)) (fun c29 => ?_) (fun c29 => ?_)
  · skip
    replace c29 := hid c29
    exact GO.le (j18 dt hI hF (by (first | omega | (have z0_ := unhid c29; omega)))) ⟨.inl rfl, .inr ⟨rfl, trivial⟩, trivial⟩
  · skip
    refine go_toq PM21 (k := 2) (pc' := 9) (L' := [some (.inr (.inr (some 35))), some (.inl p1)]) (st' := [.inl p1, .inr (.inr (some 35))]) (w' := (SH, dt)) rfl ?_
    have hI30 : InvC (u2 dt 35 2 p1) := InvC_u2 hI (lo := -2147483648) (hi := 2147483647) rfl rfl rfl (by first | exact bnd1 h_p1 (by decide) | omega) (by first | exact bnd2 h_p1 (by decide) | omega)
    have hF31 : Fr [35] dt (u2 dt 35 2 p1) := Fr_u2 hF (by decide)
    have w32 : (u2 dt 35 2 p1) 35 1 = dt 35 1 := rfl
    refine go_smpq PM21 (L' := [some (.inr (.inr (some 35))), some (.inl p1)]) (st' := []) (w' := (SH, (u2 dt 35 2 p1))) rfl rfl (s_pf rfl rfl rfl rfl (by first | exact bnd h_p1 (by decide) (by decide) | exact ⟨by omega, by omega⟩)) ?_
    have r33 : (-2147483648) ≤ dt 35 8 ∧ dt 35 8 ≤ 2147483647 := InvC_get hI 35 8 rfl rfl
    have j38 :  GO (am_XX L xs sio) (d) 21 44 [some (.inr (.inr (some 35))), none] [.inl (-1), .inr (.inr (some 35))] (SH, (u2 dt 35 2 p1)) (fun r w2 => ∃ dt2 : Nat → Nat → Int, w2 = (SH, dt2) ∧ InvC dt2 ∧ Fr [35] dt dt2 ∧ ((r = none ∧ (dt2 35 1 = dt 35 1)))) := by
      skip
      have hI39 : InvC (u2 (u2 dt 35 2 p1) 35 3 (-1)) := InvC_u2 hI30 (lo := -2147483648) (hi := 2147483647) rfl rfl rfl (by decide) (by decide)
      have hF40 : Fr [35] dt (u2 (u2 dt 35 2 p1) 35 3 (-1)) := Fr_u2 hF31 (by decide)
      have w41 : (u2 (u2 dt 35 2 p1) 35 3 (-1)) 35 1 = (u2 dt 35 2 p1) 35 1 := rfl
      refine go_smpq PM21 (L' := [some (.inr (.inr (some 35))), none]) (st' := []) (w' := (SH, (u2 (u2 dt 35 2 p1) 35 3 (-1)))) rfl rfl (s_pf rfl rfl rfl rfl ⟨by omega, by omega⟩) ?_
      exact GO.le (j18 (u2 (u2 dt 35 2 p1) 35 3 (-1)) hI39 hF40 (by omega)) ⟨.inl rfl, .inl rfl, trivial⟩
    refine go_ifq PM21 (k := 3) (p1 := 43) (p2 := 20) (L' := [some (.inr (.inr (some 35))), some (.inl p1)]) (st' := [.inr (.inr (some 35))]) (w' := (SH, (u2 dt 35 2 p1))) rfl (z_lt (a := dt 35 8) (by first | exact bnd r33 (by decide) (by decide) | exact ⟨by omega, by omega⟩)) (fun c42 => ?_) (fun c42 => ?_)
    · skip
      refine go_toq PM21 (k := 1) (pc' := 44) (L' := [some (.inr (.inr (some 35))), some (.inl p1)]) (st' := [.inl (-1), .inr (.inr (some 35))]) (w' := (SH, (u2 dt 35 2 p1))) rfl ?_
      exact GO.le (j38 ) ⟨.inl rfl, .inr ⟨rfl, trivial⟩, trivial⟩
    · skip
      have r43 : 0 ≤ dt 35 7 ∧ dt 35 7 ≤ 501 := InvC_get hI 35 7 rfl rfl
      refine go_ifq PM21 (k := 4) (p1 := 43) (p2 := 31) (L' := [some (.inr (.inr (some 35))), some (.inl p1)]) (st' := [.inr (.inr (some 35))]) (w' := (SH, (u2 dt 35 2 p1))) rfl (c_ge (a := dt 35 8) (b := dt 35 7) (by first | exact bnd r33 (by decide) (by decide) | exact ⟨by omega, by omega⟩) (by first | exact bnd r43 (by decide) (by decide) | exact ⟨by omega, by omega⟩)) (fun c44 => ?_) (fun c44 => ?_)
      · skip
        refine go_toq PM21 (k := 1) (pc' := 44) (L' := [some (.inr (.inr (some 35))), some (.inl p1)]) (st' := [.inl (-1), .inr (.inr (some 35))]) (w' := (SH, (u2 dt 35 2 p1))) rfl ?_
        exact GO.le (j38 ) ⟨.inl rfl, .inr ⟨rfl, trivial⟩, trivial⟩
      · skip
        refine go_toq PM21 (k := 4) (pc' := 39) (L' := [some (.inr (.inr (some 35))), some (.inl p1)]) (st' := [.inl (dt 35 8), .inr (.inr (some 39)), .inr (.inr (some 35))]) (w' := (SH, (u2 dt 35 2 p1))) rfl ?_
        have r45 : (-2147483648) ≤ dt 39 ((dt 35 8).toNat) ∧ dt 39 ((dt 35 8).toNat) ≤ 2147483647 := InvC_get hI 39 ((dt 35 8).toNat) rfl rfl
        refine go_smpq PM21 (L' := [some (.inr (.inr (some 35))), some (.inl p1)]) (st' := [.inl (dt 39 ((dt 35 8).toNat)), .inr (.inr (some 35))]) (w' := (SH, (u2 dt 35 2 p1))) rfl rfl (s_iald (n := 501) (f := (u2 dt 35 2 p1) 39) rfl (by first | exact bndc r33 c44 (by decide) (by decide) | exact bndx r33 (by decide) (by decide) | exact ⟨by omega, by omega⟩)) ?_
        refine go_toq PM21 (k := 1) (pc' := 44) (L' := [some (.inr (.inr (some 35))), some (.inl p1)]) (st' := [.inl (dt 39 ((dt 35 8).toNat)), .inr (.inr (some 35))]) (w' := (SH, (u2 dt 35 2 p1))) rfl ?_
        have hI46 : InvC (u2 (u2 dt 35 2 p1) 35 3 (dt 39 ((dt 35 8).toNat))) := InvC_u2 hI30 (lo := -2147483648) (hi := 2147483647) rfl rfl rfl (by first | exact bnd1 r45 (by decide) | omega) (by first | exact bnd2 r45 (by decide) | omega)
        have hF47 : Fr [35] dt (u2 (u2 dt 35 2 p1) 35 3 (dt 39 ((dt 35 8).toNat))) := Fr_u2 hF31 (by decide)
        have w48 : (u2 (u2 dt 35 2 p1) 35 3 (dt 39 ((dt 35 8).toNat))) 35 1 = (u2 dt 35 2 p1) 35 1 := rfl
        refine go_smpq PM21 (L' := [some (.inr (.inr (some 35))), some (.inl p1)]) (st' := []) (w' := (SH, (u2 (u2 dt 35 2 p1) 35 3 (dt 39 ((dt 35 8).toNat))))) rfl rfl (s_pf rfl rfl rfl rfl (by first | exact bnd r45 (by decide) (by decide) | exact ⟨by omega, by omega⟩)) ?_
        exact GO.le (j18 (u2 (u2 dt 35 2 p1) 35 3 (dt 39 ((dt 35 8).toNat))) hI46 hF47 (by omega)) ⟨.inl rfl, .inr ⟨rfl, trivial⟩, trivial⟩
theorem sp_X1_skip (L : Nat) (xs : Nat → Int32) (sio : Option Nat) (d : Nat) (dt : Nat → Nat → Int) (hI : InvC dt)  (p1 : Int) (h_p1 : (-2147483648) ≤ p1 ∧ p1 ≤ 2147483647)  : GO (am_XX L xs sio) (d + 1) 22 0 [some (.inr (.inr (some 35))), some (.inl p1)] [] (SH, dt) (fun r w2 => ∃ dt2 : Nat → Nat → Int, w2 = (SH, dt2) ∧ InvC dt2 ∧ Fr [35] dt dt2 ∧ ((r = none ∧ (dt2 35 1 = dt 35 1)))) := by
  have hF : Fr [35] dt dt := Fr_refl
  refine go_toq PM22 (k := 1) (pc' := 1) (L' := [some (.inr (.inr (some 35))), some (.inl p1)]) (st' := [.inr (.inr (some 35))]) (w' := (SH, dt)) rfl ?_
  refine go_callq PM22 PM20 (Q' := _) rfl rfl rfl rfl (sp_X1_token L xs sio (d + 0) dt hI   ) ?_
  rintro _ _ ⟨rfl, h1⟩
  refine ⟨rfl, ?_⟩
  rcases h1 with ⟨v_h1, rfl, h1r, h1⟩
  have j13 : ∀ (j13_d : Nat → Nat → Int) (j13_hI : InvC j13_d) (j13_hF : Fr [35] dt j13_d) (i14 : j13_d 35 1 = dt 35 1), GO (am_XX L xs sio) (d + 1) 22 26 [some (.inr (.inr (some 35))), none] [] (SH, j13_d) (fun r w2 => ∃ dt2 : Nat → Nat → Int, w2 = (SH, dt2) ∧ InvC dt2 ∧ Fr [35] dt dt2 ∧ ((r = none ∧ (dt2 35 1 = dt 35 1)))) := by
    intro j13_d j13_hI j13_hF i14
    refine go_retq PM22 (k := 0) (r := none) (w1 := (SH, j13_d)) rfl ?_
    exact ⟨j13_d, rfl, j13_hI, j13_hF, ⟨rfl, by first | exact True.intro | with_reducible assumption | rfl | omega | trivial⟩⟩
  refine go_ifq PM22 (k := 1) (p1 := 21) (p2 := 8) (L' := [some (.inr (.inr (some 35))), some (.inl p1)]) (st' := []) (w' := (SH, dt)) rfl (c_ne (a := v_h1) (b := p1) (by first | exact bnd h1r (by decide) (by decide) | exact ⟨by omega, by omega⟩) (by first | exact bnd h_p1 (by decide) (by decide) | exact ⟨by omega, by omega⟩)) (fun c15 => ?_) (fun c15 => ?_)
  · skip
    replace c15 := hid c15
    refine go_toq PM22 (k := 2) (pc' := 23) (L' := [some (.inr (.inr (some 35))), some (.inl p1)]) (st' := [.inl 1, .inr (.inr (some 35))]) (w' := (SH, dt)) rfl ?_
    refine go_callq PM22 PM21 (Q' := _) rfl rfl rfl rfl (sp_X1_fail L xs sio (d + 0) dt hI  1 ⟨by decide, by decide⟩ ) ?_
    rintro _ _ ⟨dt17, rfl, hI18, hF19, h16⟩
    refine ⟨rfl, ?_⟩
    have hF20 : Fr [35] dt dt17 := Fr_tr hF hF19 (by decide)
    rcases h16 with ⟨rfl, h16⟩
    exact GO.le (j13 dt17 hI18 hF20 (by (first | omega | (have z0_ := unhid c15; omega)))) ⟨.inl rfl, .inr ⟨rfl, trivial⟩, trivial⟩
  · skip
    have r21 : (-2147483648) ≤ dt 35 8 ∧ dt 35 8 ≤ 2147483647 := InvC_get hI 35 8 rfl rfl
    refine go_toq PM22 (k := 5) (pc' := 15) (L' := [some (.inr (.inr (some 35))), some (.inl p1)]) (st' := [.inl ((dt 35 8) + 1), .inr (.inr (some 35))]) (w' := (SH, dt)) rfl ?_
    have r22 := wr_RR ((dt 35 8) + 1)
    have hI23 : InvC (u2 dt 35 8 (wr ((dt 35 8) + 1))) := InvC_u2 hI (lo := -2147483648) (hi := 2147483647) rfl rfl rfl (by omega) (by omega)
    have hF24 : Fr [35] dt (u2 dt 35 8 (wr ((dt 35 8) + 1))) := Fr_u2 hF (by decide)
    have w25 : (u2 dt 35 8 (wr ((dt 35 8) + 1))) 35 1 = dt 35 1 := rfl
    refine go_smpq PM22 (L' := [some (.inr (.inr (some 35))), some (.inl p1)]) (st' := []) (w' := (SH, (u2 dt 35 8 (wr ((dt 35 8) + 1))))) rfl rfl (s_pfw rfl rfl rfl rfl) ?_
    refine go_toq PM22 (k := 1) (pc' := 26) (L' := [some (.inr (.inr (some 35))), some (.inl p1)]) (st' := []) (w' := (SH, (u2 dt 35 8 (wr ((dt 35 8) + 1))))) rfl ?_
    exact GO.le (j13 (u2 dt 35 8 (wr ((dt 35 8) + 1))) hI23 hF24 (by omega)) ⟨.inl rfl, .inr ⟨rfl, trivial⟩, trivial⟩
theorem sp_X1_oneOf (L : Nat) (xs : Nat → Int32) (sio : Option Nat) (d : Nat) (dt : Nat → Nat → Int) (hI : InvC dt)  (p1 : Int) (h_p1 : (-2147483648) ≤ p1 ∧ p1 ≤ 2147483647)  : GO (am_XX L xs sio) (d + 1) 24 0 [some (.inr (.inr (some 35))), some (.inl p1), none] [] (SH, dt) (fun r w2 => ∃ dt2 : Nat → Nat → Int, w2 = (SH, dt2) ∧ InvC dt2 ∧ Fr [35] dt dt2 ∧ ((∃ v : Int, r = some (.inl v) ∧ ((-2147483648) ≤ v ∧ v ≤ 2147483646) ∧ (dt2 35 1 = dt 35 1)))) := by
  have hF : Fr [35] dt dt := Fr_refl
  refine go_toq PM24 (k := 1) (pc' := 1) (L' := [some (.inr (.inr (some 35))), some (.inl p1), none]) (st' := [.inr (.inr (some 35))]) (w' := (SH, dt)) rfl ?_
  refine go_callq PM24 PM23 (Q' := _) rfl rfl rfl rfl (sp_X1_nextNumber L xs sio (d + 0) dt hI   ) ?_
  rintro _ _ ⟨rfl, h1⟩
  refine ⟨rfl, ?_⟩
  rcases h1 with ⟨v_h1, rfl, h1r, h1⟩
  refine go_ifq PM24 (k := 3) (p1 := 15) (p2 := 10) (L' := [some (.inr (.inr (some 35))), some (.inl p1), some (.inl v_h1)]) (st' := []) (w' := (SH, dt)) rfl (c_eq (a := v_h1) (b := (-1)) (by first | exact bnd h1r (by decide) (by decide) | exact ⟨by omega, by omega⟩) ⟨by decide, by decide⟩) (fun c2 => ?_) (fun c2 => ?_)
  · skip
    refine go_ifq PM24 (k := 3) (p1 := 25) (p2 := 21) (L' := [some (.inr (.inr (some 35))), some (.inl p1), some (.inl v_h1)]) (st' := [.inr (.inr (some 35))]) (w' := (SH, dt)) rfl (c_ne (a := v_h1) (b := (-1)) (by first | exact bnd h1r (by decide) (by decide) | exact ⟨by omega, by omega⟩) ⟨by decide, by decide⟩) (fun c4 => ?_) (fun c4 => ?_)
    · skip
      replace c4 := hid c4
      refine go_toq PM24 (k := 1) (pc' := 26) (L' := [some (.inr (.inr (some 35))), some (.inl p1), some (.inl v_h1)]) (st' := [.inl 2, .inr (.inr (some 35))]) (w' := (SH, dt)) rfl ?_
      refine go_callq PM24 PM21 (Q' := _) rfl rfl rfl rfl (sp_X1_fail L xs sio (d + 0) dt hI  2 ⟨by decide, by decide⟩ ) ?_
      rintro _ _ ⟨dt6, rfl, hI7, hF8, h5⟩
      refine ⟨rfl, ?_⟩
      have hF9 : Fr [35] dt dt6 := Fr_tr hF hF8 (by decide)
      rcases h5 with ⟨rfl, h5⟩
      refine go_retq PM24 (k := 1) (r := some (.inl 0)) (w1 := (SH, dt6)) rfl ?_
      exact ⟨dt6, rfl, hI7, hF9, ⟨_, rfl, ⟨by decide, by decide⟩, by first | exact True.intro | with_reducible assumption | exact unhid (by with_reducible assumption) | rfl | (first | omega | (have z0_ := unhid c4; omega)) | trivial⟩⟩
    · skip
      refine go_toq PM24 (k := 2) (pc' := 26) (L' := [some (.inr (.inr (some 35))), some (.inl p1), some (.inl v_h1)]) (st' := [.inl 1, .inr (.inr (some 35))]) (w' := (SH, dt)) rfl ?_
      refine go_callq PM24 PM21 (Q' := _) rfl rfl rfl rfl (sp_X1_fail L xs sio (d + 0) dt hI  1 ⟨by decide, by decide⟩ ) ?_
      rintro _ _ ⟨dt11, rfl, hI12, hF13, h10⟩
      refine ⟨rfl, ?_⟩
      have hF14 : Fr [35] dt dt11 := Fr_tr hF hF13 (by decide)
      rcases h10 with ⟨rfl, h10⟩
      refine go_retq PM24 (k := 1) (r := some (.inl 0)) (w1 := (SH, dt11)) rfl ?_
      exact ⟨dt11, rfl, hI12, hF14, ⟨_, rfl, ⟨by decide, by decide⟩, by first | exact True.intro | with_reducible assumption | rfl | omega | trivial⟩⟩
  · skip
    replace c2 := hid c2
    refine go_ifq PM24 (k := 2) (p1 := 31) (p2 := 15) (L' := [some (.inr (.inr (some 35))), some (.inl p1), some (.inl v_h1)]) (st' := []) (w' := (SH, dt)) rfl (c_lt (a := v_h1) (b := p1) (by first | exact bnd h1r (by decide) (by decide) | exact ⟨by (first | omega | (have z0_ := unhid c2; omega)), by (first | omega | (have z0_ := unhid c2; omega))⟩) (by first | exact bnd h_p1 (by decide) (by decide) | exact ⟨by (first | omega | (have z0_ := unhid c2; omega)), by (first | omega | (have z0_ := unhid c2; omega))⟩)) (fun c15 => ?_) (fun c15 => ?_)
    · skip
      have r16 : (-2147483648) ≤ dt 35 8 ∧ dt 35 8 ≤ 2147483647 := InvC_get hI 35 8 rfl rfl
      refine go_toq PM24 (k := 5) (pc' := 38) (L' := [some (.inr (.inr (some 35))), some (.inl p1), some (.inl v_h1)]) (st' := [.inl ((dt 35 8) + 1), .inr (.inr (some 35))]) (w' := (SH, dt)) rfl ?_
      have r17 := wr_RR ((dt 35 8) + 1)
      have hI18 : InvC (u2 dt 35 8 (wr ((dt 35 8) + 1))) := InvC_u2 hI (lo := -2147483648) (hi := 2147483647) rfl rfl rfl (by (first | omega | (have z0_ := unhid c2; omega))) (by (first | omega | (have z0_ := unhid c2; omega)))
      have hF19 : Fr [35] dt (u2 dt 35 8 (wr ((dt 35 8) + 1))) := Fr_u2 hF (by decide)
      have w20 : (u2 dt 35 8 (wr ((dt 35 8) + 1))) 35 1 = dt 35 1 := rfl
      refine go_smpq PM24 (L' := [some (.inr (.inr (some 35))), some (.inl p1), some (.inl v_h1)]) (st' := []) (w' := (SH, (u2 dt 35 8 (wr ((dt 35 8) + 1))))) rfl rfl (s_pfw rfl rfl rfl rfl) ?_
      refine go_retq PM24 (k := 1) (r := some (.inl v_h1)) (w1 := (SH, (u2 dt 35 8 (wr ((dt 35 8) + 1))))) rfl ?_
      exact ⟨(u2 dt 35 8 (wr ((dt 35 8) + 1))), rfl, hI18, hF19, ⟨_, rfl, (by first | exact bnd h1r (by decide) (by decide) | exact ⟨by (first | omega | (have z0_ := unhid c2; omega)), by (first | omega | (have z0_ := unhid c2; omega))⟩), by first | exact True.intro | with_reducible assumption | exact unhid (by with_reducible assumption) | rfl | (first | omega | (have z0_ := unhid c2; omega)) | trivial⟩⟩
    · skip
      refine go_ifq PM24 (k := 3) (p1 := 25) (p2 := 21) (L' := [some (.inr (.inr (some 35))), some (.inl p1), some (.inl v_h1)]) (st' := [.inr (.inr (some 35))]) (w' := (SH, dt)) rfl (c_ne (a := v_h1) (b := (-1)) (by first | exact bnd h1r (by decide) (by decide) | exact ⟨by (first | omega | (have z0_ := unhid c2; omega)), by (first | omega | (have z0_ := unhid c2; omega))⟩) ⟨by decide, by decide⟩) (fun c22 => ?_) (fun c22 => ?_)
      · skip
        replace c22 := hid c22
        refine go_toq PM24 (k := 1) (pc' := 26) (L' := [some (.inr (.inr (some 35))), some (.inl p1), some (.inl v_h1)]) (st' := [.inl 2, .inr (.inr (some 35))]) (w' := (SH, dt)) rfl ?_
        refine go_callq PM24 PM21 (Q' := _) rfl rfl rfl rfl (sp_X1_fail L xs sio (d + 0) dt hI  2 ⟨by decide, by decide⟩ ) ?_
        rintro _ _ ⟨dt24, rfl, hI25, hF26, h23⟩
        refine ⟨rfl, ?_⟩
        have hF27 : Fr [35] dt dt24 := Fr_tr hF hF26 (by decide)
        rcases h23 with ⟨rfl, h23⟩
        refine go_retq PM24 (k := 1) (r := some (.inl 0)) (w1 := (SH, dt24)) rfl ?_
        exact ⟨dt24, rfl, hI25, hF27, ⟨_, rfl, ⟨by decide, by decide⟩, by first | exact True.intro | with_reducible assumption | exact unhid (by with_reducible assumption) | rfl | (first | omega | (have z0_ := unhid c2; have z1_ := unhid c22; omega)) | trivial⟩⟩
      · skip
        refine go_toq PM24 (k := 2) (pc' := 26) (L' := [some (.inr (.inr (some 35))), some (.inl p1), some (.inl v_h1)]) (st' := [.inl 1, .inr (.inr (some 35))]) (w' := (SH, dt)) rfl ?_
        refine go_callq PM24 PM21 (Q' := _) rfl rfl rfl rfl (sp_X1_fail L xs sio (d + 0) dt hI  1 ⟨by decide, by decide⟩ ) ?_
        rintro _ _ ⟨dt29, rfl, hI30, hF31, h28⟩
        refine ⟨rfl, ?_⟩
        have hF32 : Fr [35] dt dt29 := Fr_tr hF hF31 (by decide)
        rcases h28 with ⟨rfl, h28⟩
        refine go_retq PM24 (k := 1) (r := some (.inl 0)) (w1 := (SH, dt29)) rfl ?_
        exact ⟨dt29, rfl, hI30, hF32, ⟨_, rfl, ⟨by decide, by decide⟩, by first | exact True.intro | with_reducible assumption | exact unhid (by with_reducible assumption) | rfl | (first | omega | (have z0_ := unhid c2; omega)) | trivial⟩⟩
theorem sp_X1_readOther (L : Nat) (xs : Nat → Int32) (sio : Option Nat) (d : Nat) (dt : Nat → Nat → Int) (hI : InvC dt)  (p1 : Int) (h_p1 : (-2147483648) ≤ p1 ∧ p1 ≤ 2147483647)  : GO (am_XX L xs sio) (d + 2) 27 0 [some (.inr (.inr (some 35))), some (.inl p1)] [] (SH, dt) (fun r w2 => ∃ dt2 : Nat → Nat → Int, w2 = (SH, dt2) ∧ InvC dt2 ∧ Fr [35] dt dt2 ∧ ((∃ v : Int, r = some (.inl v) ∧ ((-2147483648) ≤ v ∧ v ≤ 2147483646) ∧ (dt2 35 1 = dt 35 1)))) := by
  have hF : Fr [35] dt dt := Fr_refl
  refine go_toq PM27 (k := 1) (pc' := 1) (L' := [some (.inr (.inr (some 35))), some (.inl p1)]) (st' := [.inr (.inr (some 35))]) (w' := (SH, dt)) rfl ?_
  refine go_callq PM27 PM23 (Q' := _) rfl rfl rfl rfl (sp_X1_nextNumber L xs sio (d + 1) dt hI   ) ?_
  rintro _ _ ⟨rfl, h1⟩
  refine ⟨rfl, ?_⟩
  rcases h1 with ⟨v_h1, rfl, h1r, h1⟩
  refine go_ifq PM27 (k := 1) (p1 := 15) (p2 := 8) (L' := [some (.inr (.inr (some 35))), some (.inl p1)]) (st' := []) (w' := (SH, dt)) rfl (c_ne (a := v_h1) (b := p1) (by first | exact bnd h1r (by decide) (by decide) | exact ⟨by omega, by omega⟩) (by first | exact bnd h_p1 (by decide) (by decide) | exact ⟨by omega, by omega⟩)) (fun c2 => ?_) (fun c2 => ?_)
  · skip
    replace c2 := hid c2
    refine go_toq PM27 (k := 2) (pc' := 17) (L' := [some (.inr (.inr (some 35))), some (.inl p1)]) (st' := [.inl 4, .inr (.inr (some 35))]) (w' := (SH, dt)) rfl ?_
    refine go_callq PM27 PM24 (Q' := _) rfl rfl rfl rfl (sp_X1_oneOf L xs sio (d + 0) dt hI  4 ⟨by decide, by decide⟩ ) ?_
    rintro _ _ ⟨dt4, rfl, hI5, hF6, h3⟩
    refine ⟨rfl, ?_⟩
    have hF7 : Fr [35] dt dt4 := Fr_tr hF hF6 (by decide)
    rcases h3 with ⟨v_h3, rfl, h3r, h3⟩
    refine go_retq PM27 (k := 0) (r := some (.inl v_h3)) (w1 := (SH, dt4)) rfl ?_
    exact ⟨dt4, rfl, hI5, hF7, ⟨_, rfl, (by first | exact bnd h3r (by decide) (by decide) | exact ⟨by (first | omega | (have z0_ := unhid c2; omega)), by (first | omega | (have z0_ := unhid c2; omega))⟩), by first | exact True.intro | with_reducible assumption | exact unhid (by with_reducible assumption) | rfl | (first | omega | (have z0_ := unhid c2; omega)) | trivial⟩⟩
  · skip
    refine go_toq PM27 (k := 2) (pc' := 10) (L' := [some (.inr (.inr (some 35))), some (.inl p1)]) (st' := [.inl 2, .inr (.inr (some 35))]) (w' := (SH, dt)) rfl ?_
    refine go_callq PM27 PM21 (Q' := _) rfl rfl rfl rfl (sp_X1_fail L xs sio (d + 1) dt hI  2 ⟨by decide, by decide⟩ ) ?_
    rintro _ _ ⟨dt9, rfl, hI10, hF11, h8⟩
    refine ⟨rfl, ?_⟩
    have hF12 : Fr [35] dt dt9 := Fr_tr hF hF11 (by decide)
    rcases h8 with ⟨rfl, h8⟩
    refine go_retq PM27 (k := 1) (r := some (.inl 0)) (w1 := (SH, dt9)) rfl ?_
    exact ⟨dt9, rfl, hI10, hF12, ⟨_, rfl, ⟨by decide, by decide⟩, by first | exact True.intro | with_reducible assumption | rfl | omega | trivial⟩⟩
theorem sp_X1_readAct (L : Nat) (xs : Nat → Int32) (sio : Option Nat) (d : Nat) (dt : Nat → Nat → Int) (hI : InvC dt)  (p1 : Int) (h_p1 : (-2147483648) ≤ p1 ∧ p1 ≤ 2147483647)  : GO (am_XX L xs sio) (d + 3) 26 0 [some (.inr (.inr (some 35))), some (.inl p1), none, none, none] [] (SH, dt) (fun r w2 => ∃ dt2 : Nat → Nat → Int, w2 = (SH, dt2) ∧ InvC dt2 ∧ Fr [35] dt dt2 ∧ ((∃ v : Int, r = some (.inl v) ∧ ((-2147483648) ≤ v ∧ v ≤ 2147483647) ∧ (dt2 35 1 = dt 35 1)))) := by
  have hF : Fr [35] dt dt := Fr_refl
  have j4 : ∀ (i5 : 2 ≤ p1 ∧ p1 ≤ 4), GO (am_XX L xs sio) (d + 3) 26 20 [some (.inr (.inr (some 35))), some (.inl p1), none, none, none] [.inl 1] (SH, dt) (fun r w2 => ∃ dt2 : Nat → Nat → Int, w2 = (SH, dt2) ∧ InvC dt2 ∧ Fr [35] dt dt2 ∧ ((∃ v : Int, r = some (.inl v) ∧ ((-2147483648) ≤ v ∧ v ≤ 2147483647) ∧ (dt2 35 1 = dt 35 1)))) := by
    intro i5
    have j22 : ∀ (j22_a3 : Int) (j22_d : Nat → Nat → Int) (j22_hI : InvC j22_d) (j22_hF : Fr [35] dt j22_d) (i23 : (-2147483648) ≤ j22_a3 ∧ j22_a3 ≤ 2147483647) (i24 : j22_d 35 1 = dt 35 1), GO (am_XX L xs sio) (d + 3) 26 60 [some (.inr (.inr (some 35))), some (.inl p1), some (.inl 1), some (.inl j22_a3), none] [] (SH, j22_d) (fun r w2 => ∃ dt2 : Nat → Nat → Int, w2 = (SH, dt2) ∧ InvC dt2 ∧ Fr [35] dt dt2 ∧ ((∃ v : Int, r = some (.inl v) ∧ ((-2147483648) ≤ v ∧ v ≤ 2147483647) ∧ (dt2 35 1 = dt 35 1)))) := by
      intro j22_a3 j22_d j22_hI j22_hF i23 i24
      refine go_toq PM26 (k := 5) (pc' := 67) (L' := [some (.inr (.inr (some 35))), some (.inl p1), some (.inl 1), some (.inl j22_a3), none]) (st' := [.inl 3, .inr (.inr (some 35)), .inl j22_a3]) (w' := (SH, j22_d)) rfl ?_
      refine go_callq PM26 PM24 (Q' := _) rfl rfl rfl rfl (sp_X1_oneOf L xs sio (d + 1) j22_d j22_hI  3 ⟨by decide, by decide⟩ ) ?_
      rintro _ _ ⟨dt33, rfl, hI34, hF35, h32⟩
      refine ⟨rfl, ?_⟩
      have hF36 : Fr [35] dt dt33 := Fr_tr j22_hF hF35 (by decide)
      rcases h32 with ⟨v_h32, rfl, h32r, h32⟩
      have r37 : -2147483648 ≤ am_shl v_h32 8 ∧ am_shl v_h32 8 ≤ 2147483647 := am_shl_R
      have r38 : -2147483648 ≤ am_or j22_a3 (am_shl v_h32 8) ∧ am_or j22_a3 (am_shl v_h32 8) ≤ 2147483647 := am_or_R
      refine go_toq PM26 (k := 9) (pc' := 87) (L' := [some (.inr (.inr (some 35))), some (.inl p1), some (.inl 1), some (.inl (am_or j22_a3 (am_shl v_h32 8))), none]) (st' := [.inl 4, .inr (.inr (some 35)), .inl (am_or j22_a3 (am_shl v_h32 8))]) (w' := (SH, dt33)) rfl ?_
      refine go_callq PM26 PM24 (Q' := _) rfl rfl rfl rfl (sp_X1_oneOf L xs sio (d + 1) dt33 hI34  4 ⟨by decide, by decide⟩ ) ?_
      rintro _ _ ⟨dt47, rfl, hI48, hF49, h46⟩
      refine ⟨rfl, ?_⟩
      have hF50 : Fr [35] dt dt47 := Fr_tr hF36 hF49 (by decide)
      rcases h46 with ⟨v_h46, rfl, h46r, h46⟩
      have r51 : -2147483648 ≤ am_shl v_h46 10 ∧ am_shl v_h46 10 ≤ 2147483647 := am_shl_R
      have r52 : -2147483648 ≤ am_or (am_or j22_a3 (am_shl v_h32 8)) (am_shl v_h46 10) ∧ am_or (am_or j22_a3 (am_shl v_h32 8)) (am_shl v_h46 10) ≤ 2147483647 := am_or_R
      refine go_ifq PM26 (k := 6) (p1 := 112) (p2 := 101) (L' := [some (.inr (.inr (some 35))), some (.inl p1), some (.inl 1), some (.inl (am_or (am_or j22_a3 (am_shl v_h32 8)) (am_shl v_h46 10))), none]) (st' := []) (w' := (SH, dt47)) rfl (c_ne (a := p1) (b := 6) (by first | exact bnd i5 (by decide) (by decide) | exact ⟨by omega, by omega⟩) ⟨by decide, by decide⟩) (fun c54 => ?_) (fun c54 => ?_)
      · skip
        replace c54 := hid c54
        refine go_ifq PM26 (k := 2) (p1 := 129) (p2 := 118) (L' := [some (.inr (.inr (some 35))), some (.inl p1), some (.inl 1), some (.inl (am_or (am_or j22_a3 (am_shl v_h32 8)) (am_shl v_h46 10))), none]) (st' := []) (w' := (SH, dt47)) rfl (c_ne (a := p1) (b := 8) (by first | exact bnd i5 (by decide) (by decide) | exact ⟨by (first | omega | (have z0_ := unhid c54; omega)), by (first | omega | (have z0_ := unhid c54; omega))⟩) ⟨by decide, by decide⟩) (fun c56 => ?_) (fun c56 => ?_)
        · skip
          replace c56 := hid c56
          refine go_retq PM26 (k := 1) (r := some (.inl (am_or (am_or j22_a3 (am_shl v_h32 8)) (am_shl v_h46 10)))) (w1 := (SH, dt47)) rfl ?_
          exact ⟨dt47, rfl, hI48, hF50, ⟨_, rfl, (by first | exact bnd r52 (by decide) (by decide) | exact ⟨by (first | omega | (have z0_ := unhid c54; have z1_ := unhid c56; omega)), by (first | omega | (have z0_ := unhid c54; have z1_ := unhid c56; omega))⟩), by first | exact True.intro | with_reducible assumption | exact unhid (by with_reducible assumption) | rfl | (first | omega | (have z0_ := unhid c54; have z1_ := unhid c56; omega)) | trivial⟩⟩
        · exfalso; (first | omega | (have z0_ := unhid c54; omega))
      · exfalso; omega
    refine go_ifq PM26 (k := 5) (p1 := 60) (p2 := 29) (L' := [some (.inr (.inr (some 35))), some (.inl p1), some (.inl 1), some (.inl p1), none]) (st' := []) (w' := (SH, dt)) rfl (c_eq (a := p1) (b := 8) (by first | exact bnd i5 (by decide) (by decide) | exact ⟨by omega, by omega⟩) ⟨by decide, by decide⟩) (fun c57 => ?_) (fun c57 => ?_)
    · exfalso; omega
    · skip
      replace c57 := hid c57
      refine go_toq PM26 (k := 2) (pc' := 31) (L' := [some (.inr (.inr (some 35))), some (.inl p1), some (.inl 1), some (.inl p1), none]) (st' := [.inl 4, .inr (.inr (some 35))]) (w' := (SH, dt)) rfl ?_
      refine go_callq PM26 PM24 (Q' := _) rfl rfl rfl rfl (sp_X1_oneOf L xs sio (d + 1) dt hI  4 ⟨by decide, by decide⟩ ) ?_
      rintro _ _ ⟨dt59, rfl, hI60, hF61, h58⟩
      refine ⟨rfl, ?_⟩
      have hF62 : Fr [35] dt dt59 := Fr_tr hF hF61 (by decide)
      rcases h58 with ⟨v_h58, rfl, h58r, h58⟩
      have r63 : -2147483648 ≤ am_shl v_h58 4 ∧ am_shl v_h58 4 ≤ 2147483647 := am_shl_R
      have r64 : -2147483648 ≤ am_or p1 (am_shl v_h58 4) ∧ am_or p1 (am_shl v_h58 4) ≤ 2147483647 := am_or_R
      refine go_ifq PM26 (k := 9) (p1 := 60) (p2 := 48) (L' := [some (.inr (.inr (some 35))), some (.inl p1), some (.inl 1), some (.inl (am_or p1 (am_shl v_h58 4))), some (.inl v_h58)]) (st' := []) (w' := (SH, dt59)) rfl (c_ne (a := p1) (b := 4) (by first | exact bnd i5 (by decide) (by decide) | exact ⟨by (first | omega | (have z0_ := unhid c57; omega)), by (first | omega | (have z0_ := unhid c57; omega))⟩) ⟨by decide, by decide⟩) (fun c65 => ?_) (fun c65 => ?_)
      · skip
        replace c65 := hid c65
        exact GO.le (j22 (am_or p1 (am_shl v_h58 4)) dt59 hI60 hF62 (by first | exact bnd r64 (by decide) (by decide) | (first | omega | (have z0_ := unhid c57; have z1_ := unhid c65; omega))) (by (first | omega | (have z0_ := unhid c57; have z1_ := unhid c65; omega)))) ⟨.inl rfl, .inl rfl, .inl rfl, .inl rfl, .inr ⟨rfl, trivial⟩, trivial⟩
      · skip
        refine go_toq PM26 (k := 3) (pc' := 52) (L' := [some (.inr (.inr (some 35))), some (.inl p1), some (.inl 1), some (.inl (am_or p1 (am_shl v_h58 4))), some (.inl v_h58)]) (st' := [.inl v_h58, .inr (.inr (some 35)), .inl (am_or p1 (am_shl v_h58 4))]) (w' := (SH, dt59)) rfl ?_
        refine go_callq PM26 PM27 (Q' := _) rfl rfl rfl rfl (sp_X1_readOther L xs sio (d + 0) dt59 hI60  v_h58 (by first | exact bnd h58r (by decide) (by decide) | exact ⟨by (first | omega | (have z0_ := unhid c57; omega)), by (first | omega | (have z0_ := unhid c57; omega))⟩) ) ?_
        rintro _ _ ⟨dt67, rfl, hI68, hF69, h66⟩
        refine ⟨rfl, ?_⟩
        have hF70 : Fr [35] dt dt67 := Fr_tr hF62 hF69 (by decide)
        rcases h66 with ⟨v_h66, rfl, h66r, h66⟩
        have r71 : -2147483648 ≤ am_shl v_h66 6 ∧ am_shl v_h66 6 ≤ 2147483647 := am_shl_R
        have r72 : -2147483648 ≤ am_or (am_or p1 (am_shl v_h58 4)) (am_shl v_h66 6) ∧ am_or (am_or p1 (am_shl v_h58 4)) (am_shl v_h66 6) ≤ 2147483647 := am_or_R
        refine go_toq PM26 (k := 4) (pc' := 60) (L' := [some (.inr (.inr (some 35))), some (.inl p1), some (.inl 1), some (.inl (am_or (am_or p1 (am_shl v_h58 4)) (am_shl v_h66 6))), some (.inl v_h58)]) (st' := []) (w' := (SH, dt67)) rfl ?_
        exact GO.le (j22 (am_or (am_or p1 (am_shl v_h58 4)) (am_shl v_h66 6)) dt67 hI68 hF70 (by first | exact bnd r72 (by decide) (by decide) | (first | omega | (have z0_ := unhid c57; omega))) (by (first | omega | (have z0_ := unhid c57; omega)))) ⟨.inl rfl, .inl rfl, .inl rfl, .inl rfl, .inr ⟨rfl, trivial⟩, trivial⟩
  refine go_ifq PM26 (k := 2) (p1 := 15) (p2 := 5) (L' := [some (.inr (.inr (some 35))), some (.inl p1), none, none, none]) (st' := []) (w' := (SH, dt)) rfl (c_eq (a := p1) (b := 2) (by first | exact bnd h_p1 (by decide) (by decide) | exact ⟨by omega, by omega⟩) ⟨by decide, by decide⟩) (fun c73 => ?_) (fun c73 => ?_)
  · skip
    refine go_toq PM26 (k := 2) (pc' := 20) (L' := [some (.inr (.inr (some 35))), some (.inl p1), none, none, none]) (st' := [.inl 1]) (w' := (SH, dt)) rfl ?_
    exact GO.le (j4 (by omega)) ⟨.inl rfl, .inl rfl, .inl rfl, .inl rfl, .inl rfl, trivial⟩
  · skip
    replace c73 := hid c73
    refine go_ifq PM26 (k := 2) (p1 := 15) (p2 := 10) (L' := [some (.inr (.inr (some 35))), some (.inl p1), none, none, none]) (st' := []) (w' := (SH, dt)) rfl (c_eq (a := p1) (b := 3) (by first | exact bnd h_p1 (by decide) (by decide) | exact ⟨by (first | omega | (have z0_ := unhid c73; omega)), by (first | omega | (have z0_ := unhid c73; omega))⟩) ⟨by decide, by decide⟩) (fun c74 => ?_) (fun c74 => ?_)
    · skip
      refine go_toq PM26 (k := 2) (pc' := 20) (L' := [some (.inr (.inr (some 35))), some (.inl p1), none, none, none]) (st' := [.inl 1]) (w' := (SH, dt)) rfl ?_
      exact GO.le (j4 (by (first | omega | (have z0_ := unhid c73; omega)))) ⟨.inl rfl, .inl rfl, .inl rfl, .inl rfl, .inl rfl, trivial⟩
    · skip
      replace c74 := hid c74
      refine go_ifq PM26 (k := 2) (p1 := 19) (p2 := 15) (L' := [some (.inr (.inr (some 35))), some (.inl p1), none, none, none]) (st' := []) (w' := (SH, dt)) rfl (c_ne (a := p1) (b := 4) (by first | exact bnd h_p1 (by decide) (by decide) | exact ⟨by (first | omega | (have z0_ := unhid c73; have z1_ := unhid c74; omega)), by (first | omega | (have z0_ := unhid c73; have z1_ := unhid c74; omega))⟩) ⟨by decide, by decide⟩) (fun c75 => ?_) (fun c75 => ?_)
      · skip
        replace c75 := hid c75
        have j92 : ∀ (j92_a3 : Int) (j92_d : Nat → Nat → Int) (j92_hI : InvC j92_d) (j92_hF : Fr [35] dt j92_d) (i93 : (-2147483648) ≤ j92_a3 ∧ j92_a3 ≤ 2147483647) (i94 : j92_d 35 1 = dt 35 1), GO (am_XX L xs sio) (d + 3) 26 60 [some (.inr (.inr (some 35))), some (.inl p1), some (.inl 0), some (.inl j92_a3), none] [] (SH, j92_d) (fun r w2 => ∃ dt2 : Nat → Nat → Int, w2 = (SH, dt2) ∧ InvC dt2 ∧ Fr [35] dt dt2 ∧ ((∃ v : Int, r = some (.inl v) ∧ ((-2147483648) ≤ v ∧ v ≤ 2147483647) ∧ (dt2 35 1 = dt 35 1)))) := by
          intro j92_a3 j92_d j92_hI j92_hF i93 i94
          have j103 : ∀ (j103_a3 : Int) (j103_d : Nat → Nat → Int) (j103_hI : InvC j103_d) (j103_hF : Fr [35] dt j103_d) (i104 : (-2147483648) ≤ j103_a3 ∧ j103_a3 ≤ 2147483647) (i105 : j103_d 35 1 = dt 35 1), GO (am_XX L xs sio) (d + 3) 26 95 [some (.inr (.inr (some 35))), some (.inl p1), none, some (.inl j103_a3), none] [] (SH, j103_d) (fun r w2 => ∃ dt2 : Nat → Nat → Int, w2 = (SH, dt2) ∧ InvC dt2 ∧ Fr [35] dt dt2 ∧ ((∃ v : Int, r = some (.inl v) ∧ ((-2147483648) ≤ v ∧ v ≤ 2147483647) ∧ (dt2 35 1 = dt 35 1)))) := by
            intro j103_a3 j103_d j103_hI j103_hF i104 i105
            have j114 : ∀ (j114_a3 : Int) (j114_d : Nat → Nat → Int) (j114_hI : InvC j114_d) (j114_hF : Fr [35] dt j114_d) (i115 : (-2147483648) ≤ j114_a3 ∧ j114_a3 ≤ 2147483647) (i116 : j114_d 35 1 = dt 35 1), GO (am_XX L xs sio) (d + 3) 26 112 [some (.inr (.inr (some 35))), some (.inl p1), none, some (.inl j114_a3), none] [] (SH, j114_d) (fun r w2 => ∃ dt2 : Nat → Nat → Int, w2 = (SH, dt2) ∧ InvC dt2 ∧ Fr [35] dt dt2 ∧ ((∃ v : Int, r = some (.inl v) ∧ ((-2147483648) ≤ v ∧ v ≤ 2147483647) ∧ (dt2 35 1 = dt 35 1)))) := by
              intro j114_a3 j114_d j114_hI j114_hF i115 i116
              have j125 : ∀ (j125_a3 : Int) (j125_d : Nat → Nat → Int) (j125_hI : InvC j125_d) (j125_hF : Fr [35] dt j125_d) (i126 : (-2147483648) ≤ j125_a3 ∧ j125_a3 ≤ 2147483647) (i127 : j125_d 35 1 = dt 35 1), GO (am_XX L xs sio) (d + 3) 26 129 [some (.inr (.inr (some 35))), none, none, some (.inl j125_a3), none] [] (SH, j125_d) (fun r w2 => ∃ dt2 : Nat → Nat → Int, w2 = (SH, dt2) ∧ InvC dt2 ∧ Fr [35] dt dt2 ∧ ((∃ v : Int, r = some (.inl v) ∧ ((-2147483648) ≤ v ∧ v ≤ 2147483647) ∧ (dt2 35 1 = dt 35 1)))) := by
                intro j125_a3 j125_d j125_hI j125_hF i126 i127
                refine go_retq PM26 (k := 1) (r := some (.inl j125_a3)) (w1 := (SH, j125_d)) rfl ?_
                exact ⟨j125_d, rfl, j125_hI, j125_hF, ⟨_, rfl, (by first | exact bnd i126 (by decide) (by decide) | exact ⟨by (first | omega | (have z0_ := unhid c73; have z1_ := unhid c74; have z2_ := unhid c75; omega)), by (first | omega | (have z0_ := unhid c73; have z1_ := unhid c74; have z2_ := unhid c75; omega))⟩), by first | exact True.intro | with_reducible assumption | exact unhid (by with_reducible assumption) | rfl | (first | omega | (have z0_ := unhid c73; have z1_ := unhid c74; have z2_ := unhid c75; omega)) | trivial⟩⟩
              refine go_ifq PM26 (k := 2) (p1 := 129) (p2 := 118) (L' := [some (.inr (.inr (some 35))), some (.inl p1), none, some (.inl j114_a3), none]) (st' := []) (w' := (SH, j114_d)) rfl (c_ne (a := p1) (b := 8) (by first | exact bnd h_p1 (by decide) (by decide) | exact ⟨by (first | omega | (have z0_ := unhid c73; have z1_ := unhid c74; have z2_ := unhid c75; omega)), by (first | omega | (have z0_ := unhid c73; have z1_ := unhid c74; have z2_ := unhid c75; omega))⟩) ⟨by decide, by decide⟩) (fun c128 => ?_) (fun c128 => ?_)
              · skip
                replace c128 := hid c128
                have u1_ := hid (And.intro (unhid c73) (And.intro (unhid c74) (And.intro (unhid c75) (unhid c128))))
                exact GO.le (j125 j114_a3 j114_d j114_hI j114_hF (by first | exact bnd i115 (by decide) (by decide) | (first | omega | (have z_ := unhid u1_; omega))) (by (first | omega | (have z_ := unhid u1_; omega)))) ⟨.inl rfl, .inr ⟨rfl, trivial⟩, .inl rfl, .inl rfl, .inl rfl, trivial⟩
              · skip
                refine go_toq PM26 (k := 3) (pc' := 121) (L' := [some (.inr (.inr (some 35))), some (.inl p1), none, some (.inl j114_a3), none]) (st' := [.inl 2, .inr (.inr (some 35)), .inl j114_a3]) (w' := (SH, j114_d)) rfl ?_
                refine go_callq PM26 PM24 (Q' := _) rfl rfl rfl rfl (sp_X1_oneOf L xs sio (d + 1) j114_d j114_hI  2 ⟨by decide, by decide⟩ ) ?_
                rintro _ _ ⟨dt130, rfl, hI131, hF132, h129⟩
                refine ⟨rfl, ?_⟩
                have hF133 : Fr [35] dt dt130 := Fr_tr j114_hF hF132 (by decide)
                rcases h129 with ⟨v_h129, rfl, h129r, h129⟩
                have r134 : -2147483648 ≤ am_shl v_h129 13 ∧ am_shl v_h129 13 ≤ 2147483647 := am_shl_R
                have r135 : -2147483648 ≤ am_or j114_a3 (am_shl v_h129 13) ∧ am_or j114_a3 (am_shl v_h129 13) ≤ 2147483647 := am_or_R
                refine go_toq PM26 (k := 4) (pc' := 129) (L' := [some (.inr (.inr (some 35))), some (.inl p1), none, some (.inl (am_or j114_a3 (am_shl v_h129 13))), none]) (st' := []) (w' := (SH, dt130)) rfl ?_
                exact GO.le (j125 (am_or j114_a3 (am_shl v_h129 13)) dt130 hI131 hF133 (by first | exact bnd r135 (by decide) (by decide) | (first | omega | (have z0_ := unhid c73; have z1_ := unhid c74; have z2_ := unhid c75; omega))) (by (first | omega | (have z0_ := unhid c73; have z1_ := unhid c74; have z2_ := unhid c75; omega)))) ⟨.inl rfl, .inr ⟨rfl, trivial⟩, .inl rfl, .inl rfl, .inl rfl, trivial⟩
            refine go_ifq PM26 (k := 2) (p1 := 112) (p2 := 101) (L' := [some (.inr (.inr (some 35))), some (.inl p1), none, some (.inl j103_a3), none]) (st' := []) (w' := (SH, j103_d)) rfl (c_ne (a := p1) (b := 6) (by first | exact bnd h_p1 (by decide) (by decide) | exact ⟨by (first | omega | (have z0_ := unhid c73; have z1_ := unhid c74; have z2_ := unhid c75; omega)), by (first | omega | (have z0_ := unhid c73; have z1_ := unhid c74; have z2_ := unhid c75; omega))⟩) ⟨by decide, by decide⟩) (fun c136 => ?_) (fun c136 => ?_)
            · skip
              replace c136 := hid c136
              have u2_ := hid (And.intro (unhid c73) (And.intro (unhid c74) (And.intro (unhid c75) (unhid c136))))
              exact GO.le (j114 j103_a3 j103_d j103_hI j103_hF (by first | exact bnd i104 (by decide) (by decide) | (first | omega | (have z_ := unhid u2_; omega))) (by (first | omega | (have z_ := unhid u2_; omega)))) ⟨.inl rfl, .inl rfl, .inl rfl, .inl rfl, .inl rfl, trivial⟩
            · skip
              refine go_toq PM26 (k := 3) (pc' := 104) (L' := [some (.inr (.inr (some 35))), some (.inl p1), none, some (.inl j103_a3), none]) (st' := [.inl 2, .inr (.inr (some 35)), .inl j103_a3]) (w' := (SH, j103_d)) rfl ?_
              refine go_callq PM26 PM24 (Q' := _) rfl rfl rfl rfl (sp_X1_oneOf L xs sio (d + 1) j103_d j103_hI  2 ⟨by decide, by decide⟩ ) ?_
              rintro _ _ ⟨dt138, rfl, hI139, hF140, h137⟩
              refine ⟨rfl, ?_⟩
              have hF141 : Fr [35] dt dt138 := Fr_tr j103_hF hF140 (by decide)
              rcases h137 with ⟨v_h137, rfl, h137r, h137⟩
              have r142 : -2147483648 ≤ am_shl v_h137 12 ∧ am_shl v_h137 12 ≤ 2147483647 := am_shl_R
              have r143 : -2147483648 ≤ am_or j103_a3 (am_shl v_h137 12) ∧ am_or j103_a3 (am_shl v_h137 12) ≤ 2147483647 := am_or_R
              refine go_toq PM26 (k := 4) (pc' := 112) (L' := [some (.inr (.inr (some 35))), some (.inl p1), none, some (.inl (am_or j103_a3 (am_shl v_h137 12))), none]) (st' := []) (w' := (SH, dt138)) rfl ?_
              exact GO.le (j114 (am_or j103_a3 (am_shl v_h137 12)) dt138 hI139 hF141 (by first | exact bnd r143 (by decide) (by decide) | (first | omega | (have z0_ := unhid c73; have z1_ := unhid c74; have z2_ := unhid c75; omega))) (by (first | omega | (have z0_ := unhid c73; have z1_ := unhid c74; have z2_ := unhid c75; omega)))) ⟨.inl rfl, .inl rfl, .inl rfl, .inl rfl, .inl rfl, trivial⟩
          refine go_ifq PM26 (k := 6) (p1 := 95) (p2 := 84) (L' := [some (.inr (.inr (some 35))), some (.inl p1), some (.inl 0), some (.inl j92_a3), none]) (st' := []) (w' := (SH, j92_d)) rfl (c_ne (a := p1) (b := 5) (by first | exact bnd h_p1 (by decide) (by decide) | exact ⟨by (first | omega | (have z0_ := unhid c73; have z1_ := unhid c74; have z2_ := unhid c75; omega)), by (first | omega | (have z0_ := unhid c73; have z1_ := unhid c74; have z2_ := unhid c75; omega))⟩) ⟨by decide, by decide⟩) (fun c144 => ?_) (fun c144 => ?_)
          · skip
            replace c144 := hid c144
            have u3_ := hid (And.intro (unhid c73) (And.intro (unhid c74) (And.intro (unhid c75) (unhid c144))))
            exact GO.le (j103 j92_a3 j92_d j92_hI j92_hF (by first | exact bnd i93 (by decide) (by decide) | (first | omega | (have z_ := unhid u3_; omega))) (by (first | omega | (have z_ := unhid u3_; omega)))) ⟨.inl rfl, .inl rfl, .inr ⟨rfl, trivial⟩, .inl rfl, .inl rfl, trivial⟩
          · skip
            refine go_toq PM26 (k := 3) (pc' := 87) (L' := [some (.inr (.inr (some 35))), some (.inl p1), some (.inl 0), some (.inl j92_a3), none]) (st' := [.inl 4, .inr (.inr (some 35)), .inl j92_a3]) (w' := (SH, j92_d)) rfl ?_
            refine go_callq PM26 PM24 (Q' := _) rfl rfl rfl rfl (sp_X1_oneOf L xs sio (d + 1) j92_d j92_hI  4 ⟨by decide, by decide⟩ ) ?_
            rintro _ _ ⟨dt146, rfl, hI147, hF148, h145⟩
            refine ⟨rfl, ?_⟩
            have hF149 : Fr [35] dt dt146 := Fr_tr j92_hF hF148 (by decide)
            rcases h145 with ⟨v_h145, rfl, h145r, h145⟩
            have r150 : -2147483648 ≤ am_shl v_h145 10 ∧ am_shl v_h145 10 ≤ 2147483647 := am_shl_R
            have r151 : -2147483648 ≤ am_or j92_a3 (am_shl v_h145 10) ∧ am_or j92_a3 (am_shl v_h145 10) ≤ 2147483647 := am_or_R
            refine go_toq PM26 (k := 4) (pc' := 95) (L' := [some (.inr (.inr (some 35))), some (.inl p1), some (.inl 0), some (.inl (am_or j92_a3 (am_shl v_h145 10))), none]) (st' := []) (w' := (SH, dt146)) rfl ?_
            exact GO.le (j103 (am_or j92_a3 (am_shl v_h145 10)) dt146 hI147 hF149 (by first | exact bnd r151 (by decide) (by decide) | (first | omega | (have z0_ := unhid c73; have z1_ := unhid c74; have z2_ := unhid c75; omega))) (by (first | omega | (have z0_ := unhid c73; have z1_ := unhid c74; have z2_ := unhid c75; omega)))) ⟨.inl rfl, .inl rfl, .inr ⟨rfl, trivial⟩, .inl rfl, .inl rfl, trivial⟩
        refine go_ifq PM26 (k := 6) (p1 := 60) (p2 := 29) (L' := [some (.inr (.inr (some 35))), some (.inl p1), some (.inl 0), some (.inl p1), none]) (st' := []) (w' := (SH, dt)) rfl (c_eq (a := p1) (b := 8) (by first | exact bnd h_p1 (by decide) (by decide) | exact ⟨by (first | omega | (have z0_ := unhid c73; have z1_ := unhid c74; have z2_ := unhid c75; omega)), by (first | omega | (have z0_ := unhid c73; have z1_ := unhid c74; have z2_ := unhid c75; omega))⟩) ⟨by decide, by decide⟩) (fun c152 => ?_) (fun c152 => ?_)
        · skip
          exact GO.le (j92 p1 dt hI hF (by first | exact bnd h_p1 (by decide) (by decide) | (first | omega | (have z0_ := unhid c73; have z1_ := unhid c74; have z2_ := unhid c75; omega))) (by (first | omega | (have z0_ := unhid c73; have z1_ := unhid c74; have z2_ := unhid c75; omega)))) ⟨.inl rfl, .inl rfl, .inl rfl, .inl rfl, .inl rfl, trivial⟩
        · skip
          replace c152 := hid c152
          refine go_toq PM26 (k := 2) (pc' := 31) (L' := [some (.inr (.inr (some 35))), some (.inl p1), some (.inl 0), some (.inl p1), none]) (st' := [.inl 4, .inr (.inr (some 35))]) (w' := (SH, dt)) rfl ?_
          refine go_callq PM26 PM24 (Q' := _) rfl rfl rfl rfl (sp_X1_oneOf L xs sio (d + 1) dt hI  4 ⟨by decide, by decide⟩ ) ?_
          rintro _ _ ⟨dt154, rfl, hI155, hF156, h153⟩
          refine ⟨rfl, ?_⟩
          have hF157 : Fr [35] dt dt154 := Fr_tr hF hF156 (by decide)
          rcases h153 with ⟨v_h153, rfl, h153r, h153⟩
          have r158 : -2147483648 ≤ am_shl v_h153 4 ∧ am_shl v_h153 4 ≤ 2147483647 := am_shl_R
          have r159 : -2147483648 ≤ am_or p1 (am_shl v_h153 4) ∧ am_or p1 (am_shl v_h153 4) ≤ 2147483647 := am_or_R
          have u4_ := hid (And.intro (unhid c73) (And.intro (unhid c74) (And.intro (unhid c75) (unhid c152))))
          refine go_ifq PM26 (k := 9) (p1 := 60) (p2 := 48) (L' := [some (.inr (.inr (some 35))), some (.inl p1), some (.inl 0), some (.inl (am_or p1 (am_shl v_h153 4))), some (.inl v_h153)]) (st' := []) (w' := (SH, dt154)) rfl (c_ne (a := p1) (b := 4) (by first | exact bnd h_p1 (by decide) (by decide) | exact ⟨by (first | omega | (have z_ := unhid u4_; omega)), by (first | omega | (have z_ := unhid u4_; omega))⟩) ⟨by decide, by decide⟩) (fun c160 => ?_) (fun c160 => ?_)
          · skip
            replace c160 := hid c160
            have u5_ := hid (And.intro (unhid c73) (And.intro (unhid c74) (And.intro (unhid c75) (And.intro (unhid c152) (unhid c160)))))
            exact GO.le (j92 (am_or p1 (am_shl v_h153 4)) dt154 hI155 hF157 (by first | exact bnd r159 (by decide) (by decide) | (first | omega | (have z_ := unhid u5_; omega))) (by (first | omega | (have z_ := unhid u5_; omega)))) ⟨.inl rfl, .inl rfl, .inl rfl, .inl rfl, .inr ⟨rfl, trivial⟩, trivial⟩
          · skip
            refine go_toq PM26 (k := 3) (pc' := 52) (L' := [some (.inr (.inr (some 35))), some (.inl p1), some (.inl 0), some (.inl (am_or p1 (am_shl v_h153 4))), some (.inl v_h153)]) (st' := [.inl v_h153, .inr (.inr (some 35)), .inl (am_or p1 (am_shl v_h153 4))]) (w' := (SH, dt154)) rfl ?_
            refine go_callq PM26 PM27 (Q' := _) rfl rfl rfl rfl (sp_X1_readOther L xs sio (d + 0) dt154 hI155  v_h153 (by first | exact bnd h153r (by decide) (by decide) | exact ⟨by (first | omega | (have z_ := unhid u4_; omega)), by (first | omega | (have z_ := unhid u4_; omega))⟩) ) ?_
            rintro _ _ ⟨dt162, rfl, hI163, hF164, h161⟩
            refine ⟨rfl, ?_⟩
            have hF165 : Fr [35] dt dt162 := Fr_tr hF157 hF164 (by decide)
            rcases h161 with ⟨v_h161, rfl, h161r, h161⟩
            have r166 : -2147483648 ≤ am_shl v_h161 6 ∧ am_shl v_h161 6 ≤ 2147483647 := am_shl_R
            have r167 : -2147483648 ≤ am_or (am_or p1 (am_shl v_h153 4)) (am_shl v_h161 6) ∧ am_or (am_or p1 (am_shl v_h153 4)) (am_shl v_h161 6) ≤ 2147483647 := am_or_R
            refine go_toq PM26 (k := 4) (pc' := 60) (L' := [some (.inr (.inr (some 35))), some (.inl p1), some (.inl 0), some (.inl (am_or (am_or p1 (am_shl v_h153 4)) (am_shl v_h161 6))), some (.inl v_h153)]) (st' := []) (w' := (SH, dt162)) rfl ?_
            exact GO.le (j92 (am_or (am_or p1 (am_shl v_h153 4)) (am_shl v_h161 6)) dt162 hI163 hF165 (by first | exact bnd r167 (by decide) (by decide) | (first | omega | (have z_ := unhid u4_; omega))) (by (first | omega | (have z_ := unhid u4_; omega)))) ⟨.inl rfl, .inl rfl, .inl rfl, .inl rfl, .inr ⟨rfl, trivial⟩, trivial⟩
      · skip
        refine go_toq PM26 (k := 2) (pc' := 20) (L' := [some (.inr (.inr (some 35))), some (.inl p1), none, none, none]) (st' := [.inl 1]) (w' := (SH, dt)) rfl ?_
        exact GO.le (j4 (by (first | omega | (have z0_ := unhid c73; have z1_ := unhid c74; omega)))) ⟨.inl rfl, .inl rfl, .inl rfl, .inl rfl, .inl rfl, trivial⟩
theorem sp_X1_readScene (L : Nat) (xs : Nat → Int32) (sio : Option Nat) (d : Nat) (dt : Nat → Nat → Int) (hI : InvC dt)    : GO (am_XX L xs sio) (d + 4) 25 0 [some (.inr (.inr (some 35))), none, none, none] [] (SH, dt) (fun r w2 => ∃ dt2 : Nat → Nat → Int, w2 = (SH, dt2) ∧ InvC dt2 ∧ Fr [35, 40] dt dt2 ∧ ((∃ v : Int, r = some (.inl v) ∧ (0 ≤ v ∧ v ≤ 511) ∧ (dt2 35 1 = dt 35 1)))) := by
  have hF : Fr [35, 40] dt dt := Fr_refl
  refine go_toq PM25 (k := 4) (pc' := 4) (L' := [some (.inr (.inr (some 35))), some (.inl 0), some (.inl 0), none]) (st' := []) (w' := (SH, dt)) rfl ?_
  have loop873 : ∀ (k_ : Nat) (l4_1 : Int) (l4_2 : Int) (dt867 : Nat → Nat → Int) (hI868 : InvC dt867) (hF869 : Fr [35, 40] dt dt867) (i870 : 0 ≤ l4_1 ∧ l4_1 ≤ 24) (i871 : 0 ≤ l4_2 ∧ l4_2 ≤ 501) (i872 : dt867 35 1 = dt 35 1), (502 - l4_2).toNat < k_ → GO (am_XX L xs sio) (d + 4) 25 4 [some (.inr (.inr (some 35))), some (.inl l4_1), some (.inl l4_2), none] [] (SH, dt867) (fun r w2 => ∃ dt2 : Nat → Nat → Int, w2 = (SH, dt2) ∧ InvC dt2 ∧ Fr [35, 40] dt dt2 ∧ ((∃ v : Int, r = some (.inl v) ∧ (0 ≤ v ∧ v ≤ 511) ∧ (dt2 35 1 = dt 35 1)))) := by
    intro k_
    induction k_ with
    | zero => intro l4_1 l4_2 dt867 hI868 hF869 i870 i871 i872 hm; exact absurd hm (Nat.not_lt_zero _)
    | succ k_ ih_loop873 =>
      intro l4_1 l4_2 dt867 hI868 hF869 i870 i871 i872 hm
      have j915 :  GO (am_XX L xs sio) (d + 4) 25 95 [some (.inr (.inr (some 35))), some (.inl l4_1), none, none] [] (SH, dt867) (fun r w2 => ∃ dt2 : Nat → Nat → Int, w2 = (SH, dt2) ∧ InvC dt2 ∧ Fr [35, 40] dt dt2 ∧ ((∃ v : Int, r = some (.inl v) ∧ (0 ≤ v ∧ v ≤ 511) ∧ (dt2 35 1 = dt 35 1)))) := by
        skip
        refine go_retq PM25 (k := 1) (r := some (.inl l4_1)) (w1 := (SH, dt867)) rfl ?_
        exact ⟨dt867, rfl, hI868, hF869, ⟨_, rfl, (by first | exact bnd i870 (by decide) (by decide) | exact ⟨by omega, by omega⟩), by first | exact True.intro | with_reducible assumption | rfl | omega | trivial⟩⟩
      refine go_ifq PM25 (k := 2) (p1 := 95) (p2 := 11) (L' := [some (.inr (.inr (some 35))), some (.inl l4_1), some (.inl l4_2), none]) (st' := []) (w' := (SH, dt867)) rfl (c_gt (a := l4_2) (b := 500) (by first | exact bnd i871 (by decide) (by decide) | exact ⟨by omega, by omega⟩) ⟨by decide, by decide⟩) (fun c916 => ?_) (fun c916 => ?_)
      · skip
        exact GO.le (j915 ) ⟨.inl rfl, .inl rfl, .inr ⟨rfl, trivial⟩, .inl rfl, trivial⟩
      · skip
        refine go_toq PM25 (k := 1) (pc' := 12) (L' := [some (.inr (.inr (some 35))), some (.inl l4_1), some (.inl l4_2), none]) (st' := [.inr (.inr (some 35))]) (w' := (SH, dt867)) rfl ?_
        refine go_callq PM25 PM20 (Q' := _) rfl rfl rfl rfl (sp_X1_token L xs sio (d + 3) dt867 hI868   ) ?_
        rintro _ _ ⟨rfl, h917⟩
        refine ⟨rfl, ?_⟩
        rcases h917 with ⟨v_h917, rfl, h917r, h917⟩
        refine go_ifq PM25 (k := 0) (p1 := 95) (p2 := 18) (L' := [some (.inr (.inr (some 35))), some (.inl l4_1), some (.inl l4_2), none]) (st' := []) (w' := (SH, dt867)) rfl (z_eq (a := v_h917) (by first | exact bnd h917r (by decide) (by decide) | exact ⟨by omega, by omega⟩)) (fun c918 => ?_) (fun c918 => ?_)
        · skip
          exact GO.le (j915 ) ⟨.inl rfl, .inl rfl, .inr ⟨rfl, trivial⟩, .inl rfl, trivial⟩
        · skip
          replace c918 := hid c918
          refine go_toq PM25 (k := 1) (pc' := 19) (L' := [some (.inr (.inr (some 35))), some (.inl l4_1), some (.inl l4_2), none]) (st' := [.inr (.inr (some 35))]) (w' := (SH, dt867)) rfl ?_
          refine go_callq PM25 PM20 (Q' := _) rfl rfl rfl rfl (sp_X1_token L xs sio (d + 3) dt867 hI868   ) ?_
          rintro _ _ ⟨rfl, h919⟩
          refine ⟨rfl, ?_⟩
          rcases h919 with ⟨v_h919, rfl, h919r, h919⟩
          have j956 : ∀ (j956_a1 : Int) (j956_d : Nat → Nat → Int) (j956_hI : InvC j956_d) (j956_hF : Fr [35, 40] dt j956_d) (i957 : 0 ≤ j956_a1 ∧ j956_a1 ≤ 24) (i958 : l4_1 + 0 ≤ j956_a1 ∧ j956_a1 ≤ l4_1 + 1) (i959 : j956_d 35 1 = dt 35 1), GO (am_XX L xs sio) (d + 4) 25 89 [some (.inr (.inr (some 35))), some (.inl j956_a1), some (.inl l4_2), none] [] (SH, j956_d) (fun r w2 => ∃ dt2 : Nat → Nat → Int, w2 = (SH, dt2) ∧ InvC dt2 ∧ Fr [35, 40] dt dt2 ∧ ((∃ v : Int, r = some (.inl v) ∧ (0 ≤ v ∧ v ≤ 511) ∧ (dt2 35 1 = dt 35 1)))) := by
            intro j956_a1 j956_d j956_hI j956_hF i957 i958 i959
            refine go_toq PM25 (k := 2) (pc' := 4) (L' := [some (.inr (.inr (some 35))), some (.inl j956_a1), some (.inl (l4_2 + 1)), none]) (st' := []) (w' := (SH, j956_d)) rfl ?_
            exact GO.le (ih_loop873 j956_a1 (l4_2 + 1) j956_d j956_hI j956_hF (by first | exact bnd i957 (by decide) (by decide) | (first | omega | (have z0_ := unhid c918; omega))) (by first | exact bndp i871 (by decide) (by decide) | (first | omega | (have z0_ := unhid c918; omega))) (by (first | omega | (have z0_ := unhid c918; omega))) (by (first | omega | (have z0_ := unhid c918; omega)))) ⟨.inl rfl, .inl rfl, .inl rfl, .inl rfl, trivial⟩
          refine go_ifq PM25 (k := 4) (p1 := 37) (p2 := 31) (L' := [some (.inr (.inr (some 35))), some (.inl l4_1), some (.inl l4_2), some (.inl (v_h919 - 1000))]) (st' := []) (w' := (SH, dt867)) rfl (z_lt (a := v_h919 - 1000) ⟨by (first | omega | (have z0_ := unhid c918; omega)), by (first | omega | (have z0_ := unhid c918; omega))⟩) (fun c960 => ?_) (fun c960 => ?_)
          · skip
            refine go_toq PM25 (k := 2) (pc' := 39) (L' := [some (.inr (.inr (some 35))), some (.inl l4_1), some (.inl l4_2), some (.inl (v_h919 - 1000))]) (st' := [.inl 1, .inr (.inr (some 35))]) (w' := (SH, dt867)) rfl ?_
            refine go_callq PM25 PM21 (Q' := _) rfl rfl rfl rfl (sp_X1_fail L xs sio (d + 3) dt867 hI868  1 ⟨by decide, by decide⟩ ) ?_
            rintro _ _ ⟨dt962, rfl, hI963, hF964, h961⟩
            refine ⟨rfl, ?_⟩
            have hF965 : Fr [35, 40] dt dt962 := Fr_tr hF869 hF964 (by decide)
            rcases h961 with ⟨rfl, h961⟩
            refine go_toq PM25 (k := 1) (pc' := 89) (L' := [some (.inr (.inr (some 35))), some (.inl l4_1), some (.inl l4_2), some (.inl (v_h919 - 1000))]) (st' := []) (w' := (SH, dt962)) rfl ?_
            exact GO.le (j956 l4_1 dt962 hI963 hF965 (by first | exact bnd i870 (by decide) (by decide) | (first | omega | (have z0_ := unhid c918; omega))) (by (first | omega | (have z0_ := unhid c918; omega))) (by (first | omega | (have z0_ := unhid c918; omega)))) ⟨.inl rfl, .inl rfl, .inl rfl, .inr ⟨rfl, trivial⟩, trivial⟩
          · skip
            refine go_ifq PM25 (k := 2) (p1 := 45) (p2 := 37) (L' := [some (.inr (.inr (some 35))), some (.inl l4_1), some (.inl l4_2), some (.inl (v_h919 - 1000))]) (st' := []) (w' := (SH, dt867)) rfl (c_le (a := v_h919 - 1000) (b := 8) ⟨by (first | omega | (have z0_ := unhid c918; omega)), by (first | omega | (have z0_ := unhid c918; omega))⟩ ⟨by decide, by decide⟩) (fun c966 => ?_) (fun c966 => ?_)
            · skip
              refine go_ifq PM25 (k := 2) (p1 := 59) (p2 := 51) (L' := [some (.inr (.inr (some 35))), some (.inl l4_1), some (.inl l4_2), some (.inl (v_h919 - 1000))]) (st' := []) (w' := (SH, dt867)) rfl (c_lt (a := l4_1) (b := 24) (by first | exact bnd i870 (by decide) (by decide) | exact ⟨by (first | omega | (have z0_ := unhid c918; omega)), by (first | omega | (have z0_ := unhid c918; omega))⟩) ⟨by decide, by decide⟩) (fun c967 => ?_) (fun c967 => ?_)
              · skip
                have r968 : (-2147483648) ≤ dt867 35 8 ∧ dt867 35 8 ≤ 2147483647 := InvC_get hI868 35 8 rfl rfl
                refine go_toq PM25 (k := 5) (pc' := 66) (L' := [some (.inr (.inr (some 35))), some (.inl l4_1), some (.inl l4_2), some (.inl (v_h919 - 1000))]) (st' := [.inl ((dt867 35 8) + 1), .inr (.inr (some 35))]) (w' := (SH, dt867)) rfl ?_
                have r969 := wr_RR ((dt867 35 8) + 1)
                have hI970 : InvC (u2 dt867 35 8 (wr ((dt867 35 8) + 1))) := InvC_u2 hI868 (lo := -2147483648) (hi := 2147483647) rfl rfl rfl (by (first | omega | (have z0_ := unhid c918; omega))) (by (first | omega | (have z0_ := unhid c918; omega)))
                have hF971 : Fr [35, 40] dt (u2 dt867 35 8 (wr ((dt867 35 8) + 1))) := Fr_u2 hF869 (by decide)
                have w972 : (u2 dt867 35 8 (wr ((dt867 35 8) + 1))) 35 1 = dt867 35 1 := rfl
                refine go_smpq PM25 (L' := [some (.inr (.inr (some 35))), some (.inl l4_1), some (.inl l4_2), some (.inl (v_h919 - 1000))]) (st' := []) (w' := (SH, (u2 dt867 35 8 (wr ((dt867 35 8) + 1))))) rfl rfl (s_pfw rfl rfl rfl rfl) ?_
                refine go_toq PM25 (k := 5) (pc' := 76) (L' := [some (.inr (.inr (some 35))), some (.inl l4_1), some (.inl l4_2), some (.inl (v_h919 - 1000))]) (st' := [.inl (v_h919 - 1000), .inr (.inr (some 35)), .inl l4_1, .inr (.inr (some 40))]) (w' := (SH, (u2 dt867 35 8 (wr ((dt867 35 8) + 1))))) rfl ?_
                refine go_callq PM25 PM26 (Q' := _) rfl rfl rfl rfl (sp_X1_readAct L xs sio (d + 0) (u2 dt867 35 8 (wr ((dt867 35 8) + 1))) hI970  (v_h919 - 1000) ⟨by (first | omega | (have z0_ := unhid c918; omega)), by (first | omega | (have z0_ := unhid c918; omega))⟩ ) ?_
                rintro _ _ ⟨dt974, rfl, hI975, hF976, h973⟩
                refine ⟨rfl, ?_⟩
                have hF977 : Fr [35, 40] dt dt974 := Fr_tr hF971 hF976 (by decide)
                rcases h973 with ⟨v_h973, rfl, h973r, h973⟩
                have hI978 : InvC (u2 dt974 40 (l4_1).toNat v_h973) := InvC_u2 hI975 (lo := -2147483648) (hi := 2147483647) rfl rfl rfl (by first | exact bnd1 h973r (by decide) | (first | omega | (have z0_ := unhid c918; omega))) (by first | exact bnd2 h973r (by decide) | (first | omega | (have z0_ := unhid c918; omega)))
                have hF979 : Fr [35, 40] dt (u2 dt974 40 (l4_1).toNat v_h973) := Fr_u2 hF977 (by decide)
                have w980 : (u2 dt974 40 (l4_1).toNat v_h973) 35 1 = dt974 35 1 := rfl
                refine go_smpq PM25 (L' := [some (.inr (.inr (some 35))), some (.inl l4_1), some (.inl l4_2), some (.inl (v_h919 - 1000))]) (st' := []) (w' := (SH, (u2 dt974 40 (l4_1).toNat v_h973))) rfl rfl (s_iast (n := 24) rfl ⟨by (first | omega | (have z0_ := unhid c918; omega)), by (first | omega | (have z0_ := unhid c918; omega))⟩ ⟨by (first | omega | (have z0_ := unhid c918; omega)), by (first | omega | (have z0_ := unhid c918; omega))⟩) ?_
                refine go_toq PM25 (k := 2) (pc' := 83) (L' := [some (.inr (.inr (some 35))), some (.inl l4_1), some (.inl l4_2), some (.inl (v_h919 - 1000))]) (st' := [.inl 59, .inr (.inr (some 35))]) (w' := (SH, (u2 dt974 40 (l4_1).toNat v_h973))) rfl ?_
                refine go_callq PM25 PM22 (Q' := _) rfl rfl rfl rfl (sp_X1_skip L xs sio (d + 2) (u2 dt974 40 (l4_1).toNat v_h973) hI978  59 ⟨by decide, by decide⟩ ) ?_
                rintro _ _ ⟨dt982, rfl, hI983, hF984, h981⟩
                refine ⟨rfl, ?_⟩
                have hF985 : Fr [35, 40] dt dt982 := Fr_tr hF979 hF984 (by decide)
                rcases h981 with ⟨rfl, h981⟩
                refine go_toq PM25 (k := 1) (pc' := 89) (L' := [some (.inr (.inr (some 35))), some (.inl (l4_1 + 1)), some (.inl l4_2), some (.inl (v_h919 - 1000))]) (st' := []) (w' := (SH, dt982)) rfl ?_
                exact GO.le (j956 (l4_1 + 1) dt982 hI983 hF985 (by first | exact bndp i870 (by decide) (by decide) | (first | omega | (have z0_ := unhid c918; omega))) (by (first | omega | (have z0_ := unhid c918; omega))) (by (first | omega | (have z0_ := unhid c918; omega)))) ⟨.inl rfl, .inl rfl, .inl rfl, .inr ⟨rfl, trivial⟩, trivial⟩
              · skip
                refine go_toq PM25 (k := 2) (pc' := 53) (L' := [some (.inr (.inr (some 35))), some (.inl l4_1), some (.inl l4_2), some (.inl (v_h919 - 1000))]) (st' := [.inl 3, .inr (.inr (some 35))]) (w' := (SH, dt867)) rfl ?_
                refine go_callq PM25 PM21 (Q' := _) rfl rfl rfl rfl (sp_X1_fail L xs sio (d + 3) dt867 hI868  3 ⟨by decide, by decide⟩ ) ?_
                rintro _ _ ⟨dt987, rfl, hI988, hF989, h986⟩
                refine ⟨rfl, ?_⟩
                have hF990 : Fr [35, 40] dt dt987 := Fr_tr hF869 hF989 (by decide)
                rcases h986 with ⟨rfl, h986⟩
                refine go_toq PM25 (k := 1) (pc' := 89) (L' := [some (.inr (.inr (some 35))), some (.inl l4_1), some (.inl l4_2), some (.inl (v_h919 - 1000))]) (st' := []) (w' := (SH, dt987)) rfl ?_
                exact GO.le (j956 l4_1 dt987 hI988 hF990 (by first | exact bnd i870 (by decide) (by decide) | (first | omega | (have z0_ := unhid c918; omega))) (by (first | omega | (have z0_ := unhid c918; omega))) (by (first | omega | (have z0_ := unhid c918; omega)))) ⟨.inl rfl, .inl rfl, .inl rfl, .inr ⟨rfl, trivial⟩, trivial⟩
            · skip
              refine go_toq PM25 (k := 2) (pc' := 39) (L' := [some (.inr (.inr (some 35))), some (.inl l4_1), some (.inl l4_2), some (.inl (v_h919 - 1000))]) (st' := [.inl 1, .inr (.inr (some 35))]) (w' := (SH, dt867)) rfl ?_
              refine go_callq PM25 PM21 (Q' := _) rfl rfl rfl rfl (sp_X1_fail L xs sio (d + 3) dt867 hI868  1 ⟨by decide, by decide⟩ ) ?_
              rintro _ _ ⟨dt992, rfl, hI993, hF994, h991⟩
              refine ⟨rfl, ?_⟩
              have hF995 : Fr [35, 40] dt dt992 := Fr_tr hF869 hF994 (by decide)
              rcases h991 with ⟨rfl, h991⟩
              refine go_toq PM25 (k := 1) (pc' := 89) (L' := [some (.inr (.inr (some 35))), some (.inl l4_1), some (.inl l4_2), some (.inl (v_h919 - 1000))]) (st' := []) (w' := (SH, dt992)) rfl ?_
              exact GO.le (j956 l4_1 dt992 hI993 hF995 (by first | exact bnd i870 (by decide) (by decide) | (first | omega | (have z0_ := unhid c918; omega))) (by (first | omega | (have z0_ := unhid c918; omega))) (by (first | omega | (have z0_ := unhid c918; omega)))) ⟨.inl rfl, .inl rfl, .inl rfl, .inr ⟨rfl, trivial⟩, trivial⟩
  exact GO.le (loop873 _ 0 0 dt hI hF ⟨by decide, by decide⟩ ⟨by decide, by decide⟩ (by omega) (Nat.lt_succ_self _)) ⟨.inl rfl, .inl rfl, .inl rfl, .inl rfl, trivial⟩
theorem sp_X1_emit (L : Nat) (xs : Nat → Int32) (sio : Option Nat) (d : Nat) (dt : Nat → Nat → Int) (hI : InvC dt)  (p1 : Int) (h_p1 : (-2147483648) ≤ p1 ∧ p1 ≤ 2147483647)  : GO (am_XX L xs sio) (d) 30 0 [some (.inr (.inr (some 35))), some (.inl p1)] [] (SH, dt) (fun r w2 => ∃ dt2 : Nat → Nat → Int, w2 = (SH, dt2) ∧ InvC dt2 ∧ Fr [35, 42] dt dt2 ∧ ((r = none ∧ (dt2 35 1 = dt 35 1)))) := by
  have hF : Fr [35, 42] dt dt := Fr_refl
  have r1 : 0 ≤ dt 35 12 ∧ dt 35 12 ≤ 500 := InvC_get hI 35 12 rfl rfl
  have j9 : ∀ (j9_d : Nat → Nat → Int) (j9_hI : InvC j9_d) (j9_hF : Fr [35, 42] dt j9_d) (i10 : j9_d 35 1 = dt 35 1), GO (am_XX L xs sio) (d) 30 32 [some (.inr (.inr (some 35))), none] [] (SH, j9_d) (fun r w2 => ∃ dt2 : Nat → Nat → Int, w2 = (SH, dt2) ∧ InvC dt2 ∧ Fr [35, 42] dt dt2 ∧ ((r = none ∧ (dt2 35 1 = dt 35 1)))) := by
    intro j9_d j9_hI j9_hF i10
    refine go_retq PM30 (k := 0) (r := none) (w1 := (SH, j9_d)) rfl ?_
    exact ⟨j9_d, rfl, j9_hI, j9_hF, ⟨rfl, by first | exact True.intro | with_reducible assumption | rfl | omega | trivial⟩⟩
  refine go_ifq PM30 (k := 5) (p1 := 32) (p2 := 12) (L' := [some (.inr (.inr (some 35))), some (.inl p1)]) (st' := []) (w' := (SH, dt)) rfl (c_ge (a := dt 35 12) (b := 500) (by first | exact bnd r1 (by decide) (by decide) | exact ⟨by omega, by omega⟩) ⟨by decide, by decide⟩) (fun c11 => ?_) (fun c11 => ?_)
  · skip
    exact GO.le (j9 dt hI hF (by omega)) ⟨.inl rfl, .inr ⟨rfl, trivial⟩, trivial⟩
  · skip
    refine go_toq PM30 (k := 5) (pc' := 21) (L' := [some (.inr (.inr (some 35))), some (.inl p1)]) (st' := [.inl p1, .inl (dt 35 12), .inr (.inr (some 42))]) (w' := (SH, dt)) rfl ?_
    have hI12 : InvC (u2 dt 42 ((dt 35 12).toNat) p1) := InvC_u2 hI (lo := -2147483648) (hi := 2147483647) rfl rfl rfl (by first | exact bnd1 h_p1 (by decide) | omega) (by first | exact bnd2 h_p1 (by decide) | omega)
    have hF13 : Fr [35, 42] dt (u2 dt 42 ((dt 35 12).toNat) p1) := Fr_u2 hF (by decide)
    have w14 : (u2 dt 42 ((dt 35 12).toNat) p1) 35 1 = dt 35 1 := rfl
    refine go_smpq PM30 (L' := [some (.inr (.inr (some 35))), some (.inl p1)]) (st' := []) (w' := (SH, (u2 dt 42 ((dt 35 12).toNat) p1))) rfl rfl (s_iast (n := 500) rfl (by first | exact bndc r1 c11 (by decide) (by decide) | exact bndx r1 (by decide) (by decide) | exact ⟨by omega, by omega⟩) (by first | exact bnd h_p1 (by decide) (by decide) | exact ⟨by omega, by omega⟩)) ?_
    refine go_toq PM30 (k := 5) (pc' := 29) (L' := [some (.inr (.inr (some 35))), some (.inl p1)]) (st' := [.inl ((dt 35 12) + 1), .inr (.inr (some 35))]) (w' := (SH, (u2 dt 42 ((dt 35 12).toNat) p1))) rfl ?_
    have hI15 : InvC (u2 (u2 dt 42 ((dt 35 12).toNat) p1) 35 12 ((dt 35 12) + 1)) := InvC_u2 hI12 (lo := 0) (hi := 500) rfl rfl rfl (by omega) (by omega)
    have hF16 : Fr [35, 42] dt (u2 (u2 dt 42 ((dt 35 12).toNat) p1) 35 12 ((dt 35 12) + 1)) := Fr_u2 hF13 (by decide)
    have w17 : (u2 (u2 dt 42 ((dt 35 12).toNat) p1) 35 12 ((dt 35 12) + 1)) 35 1 = (u2 dt 42 ((dt 35 12).toNat) p1) 35 1 := rfl
    refine go_smpq PM30 (L' := [some (.inr (.inr (some 35))), some (.inl p1)]) (st' := []) (w' := (SH, (u2 (u2 dt 42 ((dt 35 12).toNat) p1) 35 12 ((dt 35 12) + 1)))) rfl rfl (s_pf rfl rfl rfl rfl (by first | exact bndp r1 (by decide) (by decide) | exact ⟨by omega, by omega⟩)) ?_
    exact GO.le (j9 (u2 (u2 dt 42 ((dt 35 12).toNat) p1) 35 12 ((dt 35 12) + 1)) hI15 hF16 (by omega)) ⟨.inl rfl, .inr ⟨rfl, trivial⟩, trivial⟩
theorem sp_X1_unit (L : Nat) (xs : Nat → Int32) (sio : Option Nat) (d : Nat) (dt : Nat → Nat → Int) (hI : InvC dt)    : GO (am_XX L xs sio) (d + 1) 35 0 [some (.inr (.inr (some 35))), none, none] [] (SH, dt) (fun r w2 => ∃ dt2 : Nat → Nat → Int, w2 = (SH, dt2) ∧ InvC dt2 ∧ Fr [35, 42] dt dt2 ∧ ((r = none ∧ (dt2 35 1 = dt 35 1)))) := by
  have hF : Fr [35, 42] dt dt := Fr_refl
  refine go_toq PM35 (k := 1) (pc' := 1) (L' := [some (.inr (.inr (some 35))), none, none]) (st' := [.inr (.inr (some 35))]) (w' := (SH, dt)) rfl ?_
  refine go_callq PM35 PM23 (Q' := _) rfl rfl rfl rfl (sp_X1_nextNumber L xs sio (d + 0) dt hI   ) ?_
  rintro _ _ ⟨rfl, h1⟩
  refine ⟨rfl, ?_⟩
  rcases h1 with ⟨v_h1, rfl, h1r, h1⟩
  refine go_toq PM35 (k := 2) (pc' := 6) (L' := [some (.inr (.inr (some 35))), some (.inl v_h1), none]) (st' := [.inr (.inr (some 35))]) (w' := (SH, dt)) rfl ?_
  refine go_callq PM35 PM20 (Q' := _) rfl rfl rfl rfl (sp_X1_token L xs sio (d + 0) dt hI   ) ?_
  rintro _ _ ⟨rfl, h2⟩
  refine ⟨rfl, ?_⟩
  rcases h2 with ⟨v_h2, rfl, h2r, h2⟩
  have j36 : ∀ (j36_d : Nat → Nat → Int) (j36_hI : InvC j36_d) (j36_hF : Fr [35, 42] dt j36_d) (i37 : j36_d 35 1 = dt 35 1), GO (am_XX L xs sio) (d + 1) 35 73 [some (.inr (.inr (some 35))), none, none] [] (SH, j36_d) (fun r w2 => ∃ dt2 : Nat → Nat → Int, w2 = (SH, dt2) ∧ InvC dt2 ∧ Fr [35, 42] dt dt2 ∧ ((r = none ∧ (dt2 35 1 = dt 35 1)))) := by
    intro j36_d j36_hI j36_hF i37
    refine go_retq PM35 (k := 0) (r := none) (w1 := (SH, j36_d)) rfl ?_
    exact ⟨j36_d, rfl, j36_hI, j36_hF, ⟨rfl, by first | exact True.intro | with_reducible assumption | rfl | omega | trivial⟩⟩
  refine go_ifq PM35 (k := 5) (p1 := 37) (p2 := 19) (L' := [some (.inr (.inr (some 35))), some (.inl v_h1), some (.inl (v_h2 - 1006))]) (st' := []) (w' := (SH, dt)) rfl (c_eq (a := v_h1) (b := (-1)) (by first | exact bnd h1r (by decide) (by decide) | exact ⟨by omega, by omega⟩) ⟨by decide, by decide⟩) (fun c38 => ?_) (fun c38 => ?_)
  · skip
    refine go_ifq PM35 (k := 1) (p1 := 68) (p2 := 41) (L' := [some (.inr (.inr (some 35))), some (.inl v_h1), some (.inl (v_h2 - 1006))]) (st' := []) (w' := (SH, dt)) rfl (z_lt (a := v_h2 - 1006) ⟨by omega, by omega⟩) (fun c39 => ?_) (fun c39 => ?_)
    · skip
      refine go_toq PM35 (k := 2) (pc' := 70) (L' := [some (.inr (.inr (some 35))), some (.inl v_h1), some (.inl (v_h2 - 1006))]) (st' := [.inl 1, .inr (.inr (some 35))]) (w' := (SH, dt)) rfl ?_
      refine go_callq PM35 PM21 (Q' := _) rfl rfl rfl rfl (sp_X1_fail L xs sio (d + 0) dt hI  1 ⟨by decide, by decide⟩ ) ?_
      rintro _ _ ⟨dt41, rfl, hI42, hF43, h40⟩
      refine ⟨rfl, ?_⟩
      have hF44 : Fr [35, 42] dt dt41 := Fr_tr hF hF43 (by decide)
      rcases h40 with ⟨rfl, h40⟩
      exact GO.le (j36 dt41 hI42 hF44 (by omega)) ⟨.inl rfl, .inr ⟨rfl, trivial⟩, .inr ⟨rfl, trivial⟩, trivial⟩
    · skip
      refine go_ifq PM35 (k := 2) (p1 := 68) (p2 := 47) (L' := [some (.inr (.inr (some 35))), some (.inl v_h1), some (.inl (v_h2 - 1006))]) (st' := []) (w' := (SH, dt)) rfl (c_ge (a := v_h2 - 1006) (b := 6) ⟨by omega, by omega⟩ ⟨by decide, by decide⟩) (fun c45 => ?_) (fun c45 => ?_)
      · skip
        refine go_toq PM35 (k := 2) (pc' := 70) (L' := [some (.inr (.inr (some 35))), some (.inl v_h1), some (.inl (v_h2 - 1006))]) (st' := [.inl 1, .inr (.inr (some 35))]) (w' := (SH, dt)) rfl ?_
        refine go_callq PM35 PM21 (Q' := _) rfl rfl rfl rfl (sp_X1_fail L xs sio (d + 0) dt hI  1 ⟨by decide, by decide⟩ ) ?_
        rintro _ _ ⟨dt47, rfl, hI48, hF49, h46⟩
        refine ⟨rfl, ?_⟩
        have hF50 : Fr [35, 42] dt dt47 := Fr_tr hF hF49 (by decide)
        rcases h46 with ⟨rfl, h46⟩
        exact GO.le (j36 dt47 hI48 hF50 (by omega)) ⟨.inl rfl, .inr ⟨rfl, trivial⟩, .inr ⟨rfl, trivial⟩, trivial⟩
      · skip
        refine go_toq PM35 (k := 4) (pc' := 52) (L' := [some (.inr (.inr (some 35))), some (.inl v_h1), some (.inl (v_h2 - 1006))]) (st' := [.inl ((-11) - (v_h2 - 1006)), .inr (.inr (some 35))]) (w' := (SH, dt)) rfl ?_
        refine go_callq PM35 PM30 (Q' := _) rfl rfl rfl rfl (sp_X1_emit L xs sio (d + 0) dt hI  ((-11) - (v_h2 - 1006)) ⟨by omega, by omega⟩ ) ?_
        rintro _ _ ⟨dt52, rfl, hI53, hF54, h51⟩
        refine ⟨rfl, ?_⟩
        have hF55 : Fr [35, 42] dt dt52 := Fr_tr hF hF54 (by decide)
        rcases h51 with ⟨rfl, h51⟩
        have r56 : (-2147483648) ≤ dt52 35 8 ∧ dt52 35 8 ≤ 2147483647 := InvC_get hI53 35 8 rfl rfl
        refine go_toq PM35 (k := 5) (pc' := 62) (L' := [some (.inr (.inr (some 35))), some (.inl v_h1), some (.inl (v_h2 - 1006))]) (st' := [.inl ((dt52 35 8) + 1), .inr (.inr (some 35))]) (w' := (SH, dt52)) rfl ?_
        have r57 := wr_RR ((dt52 35 8) + 1)
        have hI58 : InvC (u2 dt52 35 8 (wr ((dt52 35 8) + 1))) := InvC_u2 hI53 (lo := -2147483648) (hi := 2147483647) rfl rfl rfl (by omega) (by omega)
        have hF59 : Fr [35, 42] dt (u2 dt52 35 8 (wr ((dt52 35 8) + 1))) := Fr_u2 hF55 (by decide)
        have w60 : (u2 dt52 35 8 (wr ((dt52 35 8) + 1))) 35 1 = dt52 35 1 := rfl
        refine go_smpq PM35 (L' := [some (.inr (.inr (some 35))), some (.inl v_h1), some (.inl (v_h2 - 1006))]) (st' := []) (w' := (SH, (u2 dt52 35 8 (wr ((dt52 35 8) + 1))))) rfl rfl (s_pfw rfl rfl rfl rfl) ?_
        refine go_toq PM35 (k := 1) (pc' := 73) (L' := [some (.inr (.inr (some 35))), some (.inl v_h1), some (.inl (v_h2 - 1006))]) (st' := []) (w' := (SH, (u2 dt52 35 8 (wr ((dt52 35 8) + 1))))) rfl ?_
        exact GO.le (j36 (u2 dt52 35 8 (wr ((dt52 35 8) + 1))) hI58 hF59 (by omega)) ⟨.inl rfl, .inr ⟨rfl, trivial⟩, .inr ⟨rfl, trivial⟩, trivial⟩
  · skip
    replace c38 := hid c38
    refine go_toq PM35 (k := 2) (pc' := 21) (L' := [some (.inr (.inr (some 35))), some (.inl v_h1), some (.inl (v_h2 - 1006))]) (st' := [.inl v_h1, .inr (.inr (some 35))]) (w' := (SH, dt)) rfl ?_
    refine go_callq PM35 PM30 (Q' := _) rfl rfl rfl rfl (sp_X1_emit L xs sio (d + 0) dt hI  v_h1 (by first | exact bnd h1r (by decide) (by decide) | exact ⟨by (first | omega | (have z0_ := unhid c38; omega)), by (first | omega | (have z0_ := unhid c38; omega))⟩) ) ?_
    rintro _ _ ⟨dt62, rfl, hI63, hF64, h61⟩
    refine ⟨rfl, ?_⟩
    have hF65 : Fr [35, 42] dt dt62 := Fr_tr hF hF64 (by decide)
    rcases h61 with ⟨rfl, h61⟩
    have r66 : (-2147483648) ≤ dt62 35 8 ∧ dt62 35 8 ≤ 2147483647 := InvC_get hI63 35 8 rfl rfl
    refine go_toq PM35 (k := 5) (pc' := 31) (L' := [some (.inr (.inr (some 35))), some (.inl v_h1), some (.inl (v_h2 - 1006))]) (st' := [.inl ((dt62 35 8) + 1), .inr (.inr (some 35))]) (w' := (SH, dt62)) rfl ?_
    have r67 := wr_RR ((dt62 35 8) + 1)
    have hI68 : InvC (u2 dt62 35 8 (wr ((dt62 35 8) + 1))) := InvC_u2 hI63 (lo := -2147483648) (hi := 2147483647) rfl rfl rfl (by (first | omega | (have z0_ := unhid c38; omega))) (by (first | omega | (have z0_ := unhid c38; omega)))
    have hF69 : Fr [35, 42] dt (u2 dt62 35 8 (wr ((dt62 35 8) + 1))) := Fr_u2 hF65 (by decide)
    have w70 : (u2 dt62 35 8 (wr ((dt62 35 8) + 1))) 35 1 = dt62 35 1 := rfl
    refine go_smpq PM35 (L' := [some (.inr (.inr (some 35))), some (.inl v_h1), some (.inl (v_h2 - 1006))]) (st' := []) (w' := (SH, (u2 dt62 35 8 (wr ((dt62 35 8) + 1))))) rfl rfl (s_pfw rfl rfl rfl rfl) ?_
    refine go_toq PM35 (k := 1) (pc' := 73) (L' := [some (.inr (.inr (some 35))), some (.inl v_h1), some (.inl (v_h2 - 1006))]) (st' := []) (w' := (SH, (u2 dt62 35 8 (wr ((dt62 35 8) + 1))))) rfl ?_
    exact GO.le (j36 (u2 dt62 35 8 (wr ((dt62 35 8) + 1))) hI68 hF69 (by (first | omega | (have z0_ := unhid c38; omega)))) ⟨.inl rfl, .inr ⟨rfl, trivial⟩, .inr ⟨rfl, trivial⟩, trivial⟩
theorem sp_X1_part (L : Nat) (xs : Nat → Int32) (sio : Option Nat) (d : Nat) (dt : Nat → Nat → Int) (hI : InvC dt)    : GO (am_XX L xs sio) (d + 1) 34 0 [some (.inr (.inr (some 35))), none] [] (SH, dt) (fun r w2 => ∃ dt2 : Nat → Nat → Int, w2 = (SH, dt2) ∧ InvC dt2 ∧ Fr [35, 42] dt dt2 ∧ ((r = none ∧ (dt2 35 1 = dt 35 1)))) := by
  have hF : Fr [35, 42] dt dt := Fr_refl
  refine go_toq PM34 (k := 1) (pc' := 1) (L' := [some (.inr (.inr (some 35))), none]) (st' := [.inr (.inr (some 35))]) (w' := (SH, dt)) rfl ?_
  refine go_callq PM34 PM23 (Q' := _) rfl rfl rfl rfl (sp_X1_nextNumber L xs sio (d + 0) dt hI   ) ?_
  rintro _ _ ⟨rfl, h1⟩
  refine ⟨rfl, ?_⟩
  rcases h1 with ⟨v_h1, rfl, h1r, h1⟩
  refine go_ifq PM34 (k := 3) (p1 := 14) (p2 := 10) (L' := [some (.inr (.inr (some 35))), some (.inl v_h1)]) (st' := []) (w' := (SH, dt)) rfl (c_eq (a := v_h1) (b := (-1)) (by first | exact bnd h1r (by decide) (by decide) | exact ⟨by omega, by omega⟩) ⟨by decide, by decide⟩) (fun c2 => ?_) (fun c2 => ?_)
  · skip
    refine go_ifq PM34 (k := 3) (p1 := 24) (p2 := 20) (L' := [some (.inr (.inr (some 35))), some (.inl v_h1)]) (st' := [.inr (.inr (some 35))]) (w' := (SH, dt)) rfl (c_ne (a := v_h1) (b := (-1)) (by first | exact bnd h1r (by decide) (by decide) | exact ⟨by omega, by omega⟩) ⟨by decide, by decide⟩) (fun c4 => ?_) (fun c4 => ?_)
    · skip
      replace c4 := hid c4
      refine go_toq PM34 (k := 1) (pc' := 25) (L' := [some (.inr (.inr (some 35))), some (.inl v_h1)]) (st' := [.inl 2, .inr (.inr (some 35))]) (w' := (SH, dt)) rfl ?_
      refine go_callq PM34 PM21 (Q' := _) rfl rfl rfl rfl (sp_X1_fail L xs sio (d + 0) dt hI  2 ⟨by decide, by decide⟩ ) ?_
      rintro _ _ ⟨dt6, rfl, hI7, hF8, h5⟩
      refine ⟨rfl, ?_⟩
      have hF9 : Fr [35, 42] dt dt6 := Fr_tr hF hF8 (by decide)
      rcases h5 with ⟨rfl, h5⟩
      refine go_retq PM34 (k := 0) (r := none) (w1 := (SH, dt6)) rfl ?_
      exact ⟨dt6, rfl, hI7, hF9, ⟨rfl, by first | exact True.intro | with_reducible assumption | exact unhid (by with_reducible assumption) | rfl | (first | omega | (have z0_ := unhid c4; omega)) | trivial⟩⟩
    · skip
      refine go_toq PM34 (k := 2) (pc' := 25) (L' := [some (.inr (.inr (some 35))), some (.inl v_h1)]) (st' := [.inl 1, .inr (.inr (some 35))]) (w' := (SH, dt)) rfl ?_
      refine go_callq PM34 PM21 (Q' := _) rfl rfl rfl rfl (sp_X1_fail L xs sio (d + 0) dt hI  1 ⟨by decide, by decide⟩ ) ?_
      rintro _ _ ⟨dt11, rfl, hI12, hF13, h10⟩
      refine ⟨rfl, ?_⟩
      have hF14 : Fr [35, 42] dt dt11 := Fr_tr hF hF13 (by decide)
      rcases h10 with ⟨rfl, h10⟩
      refine go_retq PM34 (k := 0) (r := none) (w1 := (SH, dt11)) rfl ?_
      exact ⟨dt11, rfl, hI12, hF14, ⟨rfl, by first | exact True.intro | with_reducible assumption | rfl | omega | trivial⟩⟩
  · skip
    replace c2 := hid c2
    refine go_ifq PM34 (k := 1) (p1 := 29) (p2 := 14) (L' := [some (.inr (.inr (some 35))), some (.inl v_h1)]) (st' := []) (w' := (SH, dt)) rfl (z_ne (a := v_h1) (by first | exact bnd h1r (by decide) (by decide) | exact ⟨by (first | omega | (have z0_ := unhid c2; omega)), by (first | omega | (have z0_ := unhid c2; omega))⟩)) (fun c15 => ?_) (fun c15 => ?_)
    · skip
      replace c15 := hid c15
      refine go_toq PM34 (k := 2) (pc' := 31) (L' := [some (.inr (.inr (some 35))), some (.inl v_h1)]) (st' := [.inl v_h1, .inr (.inr (some 35))]) (w' := (SH, dt)) rfl ?_
      refine go_callq PM34 PM30 (Q' := _) rfl rfl rfl rfl (sp_X1_emit L xs sio (d + 0) dt hI  v_h1 (by first | exact bnd h1r (by decide) (by decide) | exact ⟨by (first | omega | (have z0_ := unhid c2; have z1_ := unhid c15; omega)), by (first | omega | (have z0_ := unhid c2; have z1_ := unhid c15; omega))⟩) ) ?_
      rintro _ _ ⟨dt17, rfl, hI18, hF19, h16⟩
      refine ⟨rfl, ?_⟩
      have hF20 : Fr [35, 42] dt dt17 := Fr_tr hF hF19 (by decide)
      rcases h16 with ⟨rfl, h16⟩
      refine go_toq PM34 (k := 2) (pc' := 37) (L' := [some (.inr (.inr (some 35))), some (.inl v_h1)]) (st' := [.inl (-4), .inr (.inr (some 35))]) (w' := (SH, dt17)) rfl ?_
      refine go_callq PM34 PM30 (Q' := _) rfl rfl rfl rfl (sp_X1_emit L xs sio (d + 0) dt17 hI18  (-4) ⟨by decide, by decide⟩ ) ?_
      rintro _ _ ⟨dt22, rfl, hI23, hF24, h21⟩
      refine ⟨rfl, ?_⟩
      have hF25 : Fr [35, 42] dt dt22 := Fr_tr hF20 hF24 (by decide)
      rcases h21 with ⟨rfl, h21⟩
      have r26 : (-2147483648) ≤ dt22 35 8 ∧ dt22 35 8 ≤ 2147483647 := InvC_get hI23 35 8 rfl rfl
      refine go_toq PM34 (k := 5) (pc' := 47) (L' := [some (.inr (.inr (some 35))), some (.inl v_h1)]) (st' := [.inl ((dt22 35 8) + 1), .inr (.inr (some 35))]) (w' := (SH, dt22)) rfl ?_
      have r27 := wr_RR ((dt22 35 8) + 1)
      have hI28 : InvC (u2 dt22 35 8 (wr ((dt22 35 8) + 1))) := InvC_u2 hI23 (lo := -2147483648) (hi := 2147483647) rfl rfl rfl (by (first | omega | (have z0_ := unhid c2; have z1_ := unhid c15; omega))) (by (first | omega | (have z0_ := unhid c2; have z1_ := unhid c15; omega)))
      have hF29 : Fr [35, 42] dt (u2 dt22 35 8 (wr ((dt22 35 8) + 1))) := Fr_u2 hF25 (by decide)
      have w30 : (u2 dt22 35 8 (wr ((dt22 35 8) + 1))) 35 1 = dt22 35 1 := rfl
      refine go_smpq PM34 (L' := [some (.inr (.inr (some 35))), some (.inl v_h1)]) (st' := []) (w' := (SH, (u2 dt22 35 8 (wr ((dt22 35 8) + 1))))) rfl rfl (s_pfw rfl rfl rfl rfl) ?_
      refine go_retq PM34 (k := 0) (r := none) (w1 := (SH, (u2 dt22 35 8 (wr ((dt22 35 8) + 1))))) rfl ?_
      exact ⟨(u2 dt22 35 8 (wr ((dt22 35 8) + 1))), rfl, hI28, hF29, ⟨rfl, by first | exact True.intro | with_reducible assumption | exact unhid (by with_reducible assumption) | rfl | (first | omega | (have z0_ := unhid c2; have z1_ := unhid c15; omega)) | trivial⟩⟩
    · skip
      refine go_ifq PM34 (k := 3) (p1 := 24) (p2 := 20) (L' := [some (.inr (.inr (some 35))), some (.inl v_h1)]) (st' := [.inr (.inr (some 35))]) (w' := (SH, dt)) rfl (c_ne (a := v_h1) (b := (-1)) (by first | exact bnd h1r (by decide) (by decide) | exact ⟨by (first | omega | (have z0_ := unhid c2; omega)), by (first | omega | (have z0_ := unhid c2; omega))⟩) ⟨by decide, by decide⟩) (fun c32 => ?_) (fun c32 => ?_)
      · skip
        replace c32 := hid c32
        refine go_toq PM34 (k := 1) (pc' := 25) (L' := [some (.inr (.inr (some 35))), some (.inl v_h1)]) (st' := [.inl 2, .inr (.inr (some 35))]) (w' := (SH, dt)) rfl ?_
        refine go_callq PM34 PM21 (Q' := _) rfl rfl rfl rfl (sp_X1_fail L xs sio (d + 0) dt hI  2 ⟨by decide, by decide⟩ ) ?_
        rintro _ _ ⟨dt34, rfl, hI35, hF36, h33⟩
        refine ⟨rfl, ?_⟩
        have hF37 : Fr [35, 42] dt dt34 := Fr_tr hF hF36 (by decide)
        rcases h33 with ⟨rfl, h33⟩
        refine go_retq PM34 (k := 0) (r := none) (w1 := (SH, dt34)) rfl ?_
        exact ⟨dt34, rfl, hI35, hF37, ⟨rfl, by first | exact True.intro | with_reducible assumption | exact unhid (by with_reducible assumption) | rfl | (first | omega | (have z0_ := unhid c2; have z1_ := unhid c32; omega)) | trivial⟩⟩
      · exfalso; (first | omega | (have z0_ := unhid c2; omega))
theorem sp_X1_sum (L : Nat) (xs : Nat → Int32) (sio : Option Nat) (d : Nat) (dt : Nat → Nat → Int) (hI : InvC dt)    : GO (am_XX L xs sio) (d + 2) 33 0 [some (.inr (.inr (some 35))), none, none, none] [] (SH, dt) (fun r w2 => ∃ dt2 : Nat → Nat → Int, w2 = (SH, dt2) ∧ InvC dt2 ∧ Fr [35, 42] dt dt2 ∧ ((r = none ∧ (dt2 35 1 = dt 35 1)))) := by
  have hF : Fr [35, 42] dt dt := Fr_refl
  refine go_toq PM33 (k := 3) (pc' := 3) (L' := [some (.inr (.inr (some 35))), some (.inl 0), none, none]) (st' := [.inr (.inr (some 35))]) (w' := (SH, dt)) rfl ?_
  refine go_callq PM33 PM35 (Q' := _) rfl rfl rfl rfl (sp_X1_unit L xs sio (d + 0) dt hI   ) ?_
  rintro _ _ ⟨dt2, rfl, hI3, hF4, h1⟩
  refine ⟨rfl, ?_⟩
  have hF5 : Fr [35, 42] dt dt2 := Fr_tr hF hF4 (by decide)
  rcases h1 with ⟨rfl, h1⟩
  refine go_toq PM33 (k := 2) (pc' := 8) (L' := [some (.inr (.inr (some 35))), some (.inl 0), some (.inl 0), none]) (st' := []) (w' := (SH, dt2)) rfl ?_
  have loop636 : ∀ (k_ : Nat) (l8_1 : Int) (l8_2 : Int) (dt630 : Nat → Nat → Int) (hI631 : InvC dt630) (hF632 : Fr [35, 42] dt dt630) (i633 : (-2) ≤ l8_1 ∧ l8_1 ≤ 0) (i634 : 0 ≤ l8_2 ∧ l8_2 ≤ 501) (i635 : dt630 35 1 = dt 35 1), (502 - l8_2).toNat < k_ → GO (am_XX L xs sio) (d + 2) 33 8 [some (.inr (.inr (some 35))), some (.inl l8_1), some (.inl l8_2), none] [] (SH, dt630) (fun r w2 => ∃ dt2 : Nat → Nat → Int, w2 = (SH, dt2) ∧ InvC dt2 ∧ Fr [35, 42] dt dt2 ∧ ((r = none ∧ (dt2 35 1 = dt 35 1)))) := by
    intro k_
    induction k_ with
    | zero => intro l8_1 l8_2 dt630 hI631 hF632 i633 i634 i635 hm; exact absurd hm (Nat.not_lt_zero _)
    | succ k_ ih_loop636 =>
      intro l8_1 l8_2 dt630 hI631 hF632 i633 i634 i635 hm
      have j714 :  GO (am_XX L xs sio) (d + 2) 33 126 [some (.inr (.inr (some 35))), some (.inl l8_1), none, none] [] (SH, dt630) (fun r w2 => ∃ dt2 : Nat → Nat → Int, w2 = (SH, dt2) ∧ InvC dt2 ∧ Fr [35, 42] dt dt2 ∧ ((r = none ∧ (dt2 35 1 = dt 35 1)))) := by
        skip
        have j721 : ∀ (j721_d : Nat → Nat → Int) (j721_hI : InvC j721_d) (j721_hF : Fr [35, 42] dt j721_d) (i722 : j721_d 35 1 = dt 35 1), GO (am_XX L xs sio) (d + 2) 33 135 [some (.inr (.inr (some 35))), none, none, none] [] (SH, j721_d) (fun r w2 => ∃ dt2 : Nat → Nat → Int, w2 = (SH, dt2) ∧ InvC dt2 ∧ Fr [35, 42] dt dt2 ∧ ((r = none ∧ (dt2 35 1 = dt 35 1)))) := by
          intro j721_d j721_hI j721_hF i722
          refine go_retq PM33 (k := 0) (r := none) (w1 := (SH, j721_d)) rfl ?_
          exact ⟨j721_d, rfl, j721_hI, j721_hF, ⟨rfl, by first | exact True.intro | with_reducible assumption | rfl | omega | trivial⟩⟩
        refine go_ifq PM33 (k := 1) (p1 := 135) (p2 := 130) (L' := [some (.inr (.inr (some 35))), some (.inl l8_1), none, none]) (st' := []) (w' := (SH, dt630)) rfl (z_eq (a := l8_1) (by first | exact bnd i633 (by decide) (by decide) | exact ⟨by omega, by omega⟩)) (fun c723 => ?_) (fun c723 => ?_)
        · skip
          exact GO.le (j721 dt630 hI631 hF632 (by omega)) ⟨.inl rfl, .inr ⟨rfl, trivial⟩, .inl rfl, .inl rfl, trivial⟩
        · skip
          replace c723 := hid c723
          refine go_toq PM33 (k := 2) (pc' := 132) (L' := [some (.inr (.inr (some 35))), some (.inl l8_1), none, none]) (st' := [.inl l8_1, .inr (.inr (some 35))]) (w' := (SH, dt630)) rfl ?_
          refine go_callq PM33 PM30 (Q' := _) rfl rfl rfl rfl (sp_X1_emit L xs sio (d + 1) dt630 hI631  l8_1 (by first | exact bnd i633 (by decide) (by decide) | exact ⟨by (first | omega | (have z0_ := unhid c723; omega)), by (first | omega | (have z0_ := unhid c723; omega))⟩) ) ?_
          rintro _ _ ⟨dt725, rfl, hI726, hF727, h724⟩
          refine ⟨rfl, ?_⟩
          have hF728 : Fr [35, 42] dt dt725 := Fr_tr hF632 hF727 (by decide)
          rcases h724 with ⟨rfl, h724⟩
          exact GO.le (j721 dt725 hI726 hF728 (by (first | omega | (have z0_ := unhid c723; omega)))) ⟨.inl rfl, .inr ⟨rfl, trivial⟩, .inl rfl, .inl rfl, trivial⟩
      refine go_ifq PM33 (k := 2) (p1 := 126) (p2 := 15) (L' := [some (.inr (.inr (some 35))), some (.inl l8_1), some (.inl l8_2), none]) (st' := []) (w' := (SH, dt630)) rfl (c_gt (a := l8_2) (b := 500) (by first | exact bnd i634 (by decide) (by decide) | exact ⟨by omega, by omega⟩) ⟨by decide, by decide⟩) (fun c729 => ?_) (fun c729 => ?_)
      · skip
        exact GO.le (j714 ) ⟨.inl rfl, .inl rfl, .inr ⟨rfl, trivial⟩, .inl rfl, trivial⟩
      · skip
        refine go_toq PM33 (k := 1) (pc' := 16) (L' := [some (.inr (.inr (some 35))), some (.inl l8_1), some (.inl l8_2), none]) (st' := [.inr (.inr (some 35))]) (w' := (SH, dt630)) rfl ?_
        refine go_callq PM33 PM20 (Q' := _) rfl rfl rfl rfl (sp_X1_token L xs sio (d + 1) dt630 hI631   ) ?_
        rintro _ _ ⟨rfl, h730⟩
        refine ⟨rfl, ?_⟩
        rcases h730 with ⟨v_h730, rfl, h730r, h730⟩
        refine go_ifq PM33 (k := 3) (p1 := 49) (p2 := 26) (L' := [some (.inr (.inr (some 35))), some (.inl l8_1), some (.inl l8_2), some (.inl v_h730)]) (st' := []) (w' := (SH, dt630)) rfl (c_ne (a := v_h730) (b := 42) (by first | exact bnd h730r (by decide) (by decide) | exact ⟨by omega, by omega⟩) ⟨by decide, by decide⟩) (fun c731 => ?_) (fun c731 => ?_)
        · skip
          replace c731 := hid c731
          refine go_ifq PM33 (k := 2) (p1 := 72) (p2 := 55) (L' := [some (.inr (.inr (some 35))), some (.inl l8_1), some (.inl l8_2), some (.inl v_h730)]) (st' := []) (w' := (SH, dt630)) rfl (c_ne (a := v_h730) (b := 47) (by first | exact bnd h730r (by decide) (by decide) | exact ⟨by (first | omega | (have z0_ := unhid c731; omega)), by (first | omega | (have z0_ := unhid c731; omega))⟩) ⟨by decide, by decide⟩) (fun c732 => ?_) (fun c732 => ?_)
          · skip
            replace c732 := hid c732
            refine go_ifq PM33 (k := 2) (p1 := 84) (p2 := 78) (L' := [some (.inr (.inr (some 35))), some (.inl l8_1), some (.inl l8_2), some (.inl v_h730)]) (st' := []) (w' := (SH, dt630)) rfl (c_eq (a := v_h730) (b := 43) (by first | exact bnd h730r (by decide) (by decide) | exact ⟨by (first | omega | (have z0_ := unhid c731; have z1_ := unhid c732; omega)), by (first | omega | (have z0_ := unhid c731; have z1_ := unhid c732; omega))⟩) ⟨by decide, by decide⟩) (fun c733 => ?_) (fun c733 => ?_)
            · skip
              have j740 : ∀ (j740_d : Nat → Nat → Int) (j740_hI : InvC j740_d) (j740_hF : Fr [35, 42] dt j740_d) (i741 : j740_d 35 1 = dt 35 1), GO (am_XX L xs sio) (d + 2) 33 93 [some (.inr (.inr (some 35))), none, some (.inl l8_2), some (.inl v_h730)] [] (SH, j740_d) (fun r w2 => ∃ dt2 : Nat → Nat → Int, w2 = (SH, dt2) ∧ InvC dt2 ∧ Fr [35, 42] dt dt2 ∧ ((r = none ∧ (dt2 35 1 = dt 35 1)))) := by
                intro j740_d j740_hI j740_hF i741
                refine go_ifq PM33 (k := 2) (p1 := 103) (p2 := 99) (L' := [some (.inr (.inr (some 35))), none, some (.inl l8_2), some (.inl v_h730)]) (st' := []) (w' := (SH, j740_d)) rfl (c_ne (a := v_h730) (b := 43) (by first | exact bnd h730r (by decide) (by decide) | exact ⟨by (first | omega | (have z0_ := unhid c731; have z1_ := unhid c732; omega)), by (first | omega | (have z0_ := unhid c731; have z1_ := unhid c732; omega))⟩) ⟨by decide, by decide⟩) (fun c743 => ?_) (fun c743 => ?_)
                · skip
                  replace c743 := hid c743
                  have r744 : (-2147483648) ≤ j740_d 35 8 ∧ j740_d 35 8 ≤ 2147483647 := InvC_get j740_hI 35 8 rfl rfl
                  refine go_toq PM33 (k := 7) (pc' := 113) (L' := [some (.inr (.inr (some 35))), some (.inl (-2)), some (.inl l8_2), some (.inl v_h730)]) (st' := [.inl ((j740_d 35 8) + 1), .inr (.inr (some 35))]) (w' := (SH, j740_d)) rfl ?_
                  have r745 := wr_RR ((j740_d 35 8) + 1)
                  have hI746 : InvC (u2 j740_d 35 8 (wr ((j740_d 35 8) + 1))) := InvC_u2 j740_hI (lo := -2147483648) (hi := 2147483647) rfl rfl rfl (by (first | omega | (have z0_ := unhid c731; have z1_ := unhid c732; have z2_ := unhid c743; omega))) (by (first | omega | (have z0_ := unhid c731; have z1_ := unhid c732; have z2_ := unhid c743; omega)))
                  have hF747 : Fr [35, 42] dt (u2 j740_d 35 8 (wr ((j740_d 35 8) + 1))) := Fr_u2 j740_hF (by decide)
                  have w748 : (u2 j740_d 35 8 (wr ((j740_d 35 8) + 1))) 35 1 = j740_d 35 1 := rfl
                  refine go_smpq PM33 (L' := [some (.inr (.inr (some 35))), some (.inl (-2)), some (.inl l8_2), some (.inl v_h730)]) (st' := []) (w' := (SH, (u2 j740_d 35 8 (wr ((j740_d 35 8) + 1))))) rfl rfl (s_pfw rfl rfl rfl rfl) ?_
                  refine go_toq PM33 (k := 1) (pc' := 117) (L' := [some (.inr (.inr (some 35))), some (.inl (-2)), some (.inl l8_2), some (.inl v_h730)]) (st' := [.inr (.inr (some 35))]) (w' := (SH, (u2 j740_d 35 8 (wr ((j740_d 35 8) + 1))))) rfl ?_
                  refine go_callq PM33 PM35 (Q' := _) rfl rfl rfl rfl (sp_X1_unit L xs sio (d + 0) (u2 j740_d 35 8 (wr ((j740_d 35 8) + 1))) hI746   ) ?_
                  rintro _ _ ⟨dt750, rfl, hI751, hF752, h749⟩
                  refine ⟨rfl, ?_⟩
                  have hF753 : Fr [35, 42] dt dt750 := Fr_tr hF747 hF752 (by decide)
                  rcases h749 with ⟨rfl, h749⟩
                  refine go_toq PM33 (k := 2) (pc' := 8) (L' := [some (.inr (.inr (some 35))), some (.inl (-2)), some (.inl (l8_2 + 1)), some (.inl v_h730)]) (st' := []) (w' := (SH, dt750)) rfl ?_
                  exact GO.le (ih_loop636 (-2) (l8_2 + 1) dt750 hI751 hF753 ⟨by decide, by decide⟩ (by first | exact bndp i634 (by decide) (by decide) | (first | omega | (have z0_ := unhid c731; have z1_ := unhid c732; have z2_ := unhid c743; omega))) (by (first | omega | (have z0_ := unhid c731; have z1_ := unhid c732; have z2_ := unhid c743; omega))) (by (first | omega | (have z0_ := unhid c731; have z1_ := unhid c732; have z2_ := unhid c743; omega)))) ⟨.inl rfl, .inl rfl, .inl rfl, .inr ⟨rfl, trivial⟩, trivial⟩
                · skip
                  have r754 : (-2147483648) ≤ j740_d 35 8 ∧ j740_d 35 8 ≤ 2147483647 := InvC_get j740_hI 35 8 rfl rfl
                  refine go_toq PM33 (k := 8) (pc' := 113) (L' := [some (.inr (.inr (some 35))), some (.inl (-1)), some (.inl l8_2), some (.inl v_h730)]) (st' := [.inl ((j740_d 35 8) + 1), .inr (.inr (some 35))]) (w' := (SH, j740_d)) rfl ?_
                  have r755 := wr_RR ((j740_d 35 8) + 1)
                  have hI756 : InvC (u2 j740_d 35 8 (wr ((j740_d 35 8) + 1))) := InvC_u2 j740_hI (lo := -2147483648) (hi := 2147483647) rfl rfl rfl (by (first | omega | (have z0_ := unhid c731; have z1_ := unhid c732; omega))) (by (first | omega | (have z0_ := unhid c731; have z1_ := unhid c732; omega)))
                  have hF757 : Fr [35, 42] dt (u2 j740_d 35 8 (wr ((j740_d 35 8) + 1))) := Fr_u2 j740_hF (by decide)
                  have w758 : (u2 j740_d 35 8 (wr ((j740_d 35 8) + 1))) 35 1 = j740_d 35 1 := rfl
                  refine go_smpq PM33 (L' := [some (.inr (.inr (some 35))), some (.inl (-1)), some (.inl l8_2), some (.inl v_h730)]) (st' := []) (w' := (SH, (u2 j740_d 35 8 (wr ((j740_d 35 8) + 1))))) rfl rfl (s_pfw rfl rfl rfl rfl) ?_
                  refine go_toq PM33 (k := 1) (pc' := 117) (L' := [some (.inr (.inr (some 35))), some (.inl (-1)), some (.inl l8_2), some (.inl v_h730)]) (st' := [.inr (.inr (some 35))]) (w' := (SH, (u2 j740_d 35 8 (wr ((j740_d 35 8) + 1))))) rfl ?_
                  refine go_callq PM33 PM35 (Q' := _) rfl rfl rfl rfl (sp_X1_unit L xs sio (d + 0) (u2 j740_d 35 8 (wr ((j740_d 35 8) + 1))) hI756   ) ?_
                  rintro _ _ ⟨dt760, rfl, hI761, hF762, h759⟩
                  refine ⟨rfl, ?_⟩
                  have hF763 : Fr [35, 42] dt dt760 := Fr_tr hF757 hF762 (by decide)
                  rcases h759 with ⟨rfl, h759⟩
                  refine go_toq PM33 (k := 2) (pc' := 8) (L' := [some (.inr (.inr (some 35))), some (.inl (-1)), some (.inl (l8_2 + 1)), some (.inl v_h730)]) (st' := []) (w' := (SH, dt760)) rfl ?_
                  exact GO.le (ih_loop636 (-1) (l8_2 + 1) dt760 hI761 hF763 ⟨by decide, by decide⟩ (by first | exact bndp i634 (by decide) (by decide) | (first | omega | (have z0_ := unhid c731; have z1_ := unhid c732; omega))) (by (first | omega | (have z0_ := unhid c731; have z1_ := unhid c732; omega))) (by (first | omega | (have z0_ := unhid c731; have z1_ := unhid c732; omega)))) ⟨.inl rfl, .inl rfl, .inl rfl, .inr ⟨rfl, trivial⟩, trivial⟩
              refine go_ifq PM33 (k := 1) (p1 := 93) (p2 := 88) (L' := [some (.inr (.inr (some 35))), some (.inl l8_1), some (.inl l8_2), some (.inl v_h730)]) (st' := []) (w' := (SH, dt630)) rfl (z_eq (a := l8_1) (by first | exact bnd i633 (by decide) (by decide) | exact ⟨by (first | omega | (have z0_ := unhid c731; have z1_ := unhid c732; omega)), by (first | omega | (have z0_ := unhid c731; have z1_ := unhid c732; omega))⟩)) (fun c764 => ?_) (fun c764 => ?_)
              · skip
                exact GO.le (j740 dt630 hI631 hF632 (by (first | omega | (have z0_ := unhid c731; have z1_ := unhid c732; omega)))) ⟨.inl rfl, .inr ⟨rfl, trivial⟩, .inl rfl, .inl rfl, trivial⟩
              · skip
                replace c764 := hid c764
                refine go_toq PM33 (k := 2) (pc' := 90) (L' := [some (.inr (.inr (some 35))), some (.inl l8_1), some (.inl l8_2), some (.inl v_h730)]) (st' := [.inl l8_1, .inr (.inr (some 35))]) (w' := (SH, dt630)) rfl ?_
                refine go_callq PM33 PM30 (Q' := _) rfl rfl rfl rfl (sp_X1_emit L xs sio (d + 1) dt630 hI631  l8_1 (by first | exact bnd i633 (by decide) (by decide) | exact ⟨by (first | omega | (have z0_ := unhid c731; have z1_ := unhid c732; have z2_ := unhid c764; omega)), by (first | omega | (have z0_ := unhid c731; have z1_ := unhid c732; have z2_ := unhid c764; omega))⟩) ) ?_
                rintro _ _ ⟨dt766, rfl, hI767, hF768, h765⟩
                refine ⟨rfl, ?_⟩
                have hF769 : Fr [35, 42] dt dt766 := Fr_tr hF632 hF768 (by decide)
                rcases h765 with ⟨rfl, h765⟩
                exact GO.le (j740 dt766 hI767 hF769 (by (first | omega | (have z0_ := unhid c731; have z1_ := unhid c732; have z2_ := unhid c764; omega)))) ⟨.inl rfl, .inr ⟨rfl, trivial⟩, .inl rfl, .inl rfl, trivial⟩
            · skip
              replace c733 := hid c733
              refine go_ifq PM33 (k := 2) (p1 := 126) (p2 := 84) (L' := [some (.inr (.inr (some 35))), some (.inl l8_1), some (.inl l8_2), some (.inl v_h730)]) (st' := []) (w' := (SH, dt630)) rfl (c_ne (a := v_h730) (b := 45) (by first | exact bnd h730r (by decide) (by decide) | exact ⟨by (first | omega | (have z0_ := unhid c731; have z1_ := unhid c732; have z2_ := unhid c733; omega)), by (first | omega | (have z0_ := unhid c731; have z1_ := unhid c732; have z2_ := unhid c733; omega))⟩) ⟨by decide, by decide⟩) (fun c770 => ?_) (fun c770 => ?_)
              · skip
                replace c770 := hid c770
                exact GO.le (j714 ) ⟨.inl rfl, .inl rfl, .inr ⟨rfl, trivial⟩, .inr ⟨rfl, trivial⟩, trivial⟩
              · skip
                have j777 : ∀ (j777_d : Nat → Nat → Int) (j777_hI : InvC j777_d) (j777_hF : Fr [35, 42] dt j777_d) (i778 : j777_d 35 1 = dt 35 1), GO (am_XX L xs sio) (d + 2) 33 93 [some (.inr (.inr (some 35))), none, some (.inl l8_2), some (.inl v_h730)] [] (SH, j777_d) (fun r w2 => ∃ dt2 : Nat → Nat → Int, w2 = (SH, dt2) ∧ InvC dt2 ∧ Fr [35, 42] dt dt2 ∧ ((r = none ∧ (dt2 35 1 = dt 35 1)))) := by
                  intro j777_d j777_hI j777_hF i778
                  refine go_ifq PM33 (k := 2) (p1 := 103) (p2 := 99) (L' := [some (.inr (.inr (some 35))), none, some (.inl l8_2), some (.inl v_h730)]) (st' := []) (w' := (SH, j777_d)) rfl (c_ne (a := v_h730) (b := 43) (by first | exact bnd h730r (by decide) (by decide) | exact ⟨by (first | omega | (have z0_ := unhid c731; have z1_ := unhid c732; have z2_ := unhid c733; omega)), by (first | omega | (have z0_ := unhid c731; have z1_ := unhid c732; have z2_ := unhid c733; omega))⟩) ⟨by decide, by decide⟩) (fun c780 => ?_) (fun c780 => ?_)
                  · skip
                    replace c780 := hid c780
                    have r781 : (-2147483648) ≤ j777_d 35 8 ∧ j777_d 35 8 ≤ 2147483647 := InvC_get j777_hI 35 8 rfl rfl
                    refine go_toq PM33 (k := 7) (pc' := 113) (L' := [some (.inr (.inr (some 35))), some (.inl (-2)), some (.inl l8_2), some (.inl v_h730)]) (st' := [.inl ((j777_d 35 8) + 1), .inr (.inr (some 35))]) (w' := (SH, j777_d)) rfl ?_
                    have r782 := wr_RR ((j777_d 35 8) + 1)
                    have u6_ := hid (And.intro (unhid c731) (And.intro (unhid c732) (And.intro (unhid c733) (unhid c780))))
                    have hI783 : InvC (u2 j777_d 35 8 (wr ((j777_d 35 8) + 1))) := InvC_u2 j777_hI (lo := -2147483648) (hi := 2147483647) rfl rfl rfl (by (first | omega | (have z_ := unhid u6_; omega))) (by (first | omega | (have z_ := unhid u6_; omega)))
                    have hF784 : Fr [35, 42] dt (u2 j777_d 35 8 (wr ((j777_d 35 8) + 1))) := Fr_u2 j777_hF (by decide)
                    have w785 : (u2 j777_d 35 8 (wr ((j777_d 35 8) + 1))) 35 1 = j777_d 35 1 := rfl
                    refine go_smpq PM33 (L' := [some (.inr (.inr (some 35))), some (.inl (-2)), some (.inl l8_2), some (.inl v_h730)]) (st' := []) (w' := (SH, (u2 j777_d 35 8 (wr ((j777_d 35 8) + 1))))) rfl rfl (s_pfw rfl rfl rfl rfl) ?_
                    refine go_toq PM33 (k := 1) (pc' := 117) (L' := [some (.inr (.inr (some 35))), some (.inl (-2)), some (.inl l8_2), some (.inl v_h730)]) (st' := [.inr (.inr (some 35))]) (w' := (SH, (u2 j777_d 35 8 (wr ((j777_d 35 8) + 1))))) rfl ?_
                    refine go_callq PM33 PM35 (Q' := _) rfl rfl rfl rfl (sp_X1_unit L xs sio (d + 0) (u2 j777_d 35 8 (wr ((j777_d 35 8) + 1))) hI783   ) ?_
                    rintro _ _ ⟨dt787, rfl, hI788, hF789, h786⟩
                    refine ⟨rfl, ?_⟩
                    have hF790 : Fr [35, 42] dt dt787 := Fr_tr hF784 hF789 (by decide)
                    rcases h786 with ⟨rfl, h786⟩
                    refine go_toq PM33 (k := 2) (pc' := 8) (L' := [some (.inr (.inr (some 35))), some (.inl (-2)), some (.inl (l8_2 + 1)), some (.inl v_h730)]) (st' := []) (w' := (SH, dt787)) rfl ?_
                    exact GO.le (ih_loop636 (-2) (l8_2 + 1) dt787 hI788 hF790 ⟨by decide, by decide⟩ (by first | exact bndp i634 (by decide) (by decide) | (first | omega | (have z_ := unhid u6_; omega))) (by (first | omega | (have z_ := unhid u6_; omega))) (by (first | omega | (have z_ := unhid u6_; omega)))) ⟨.inl rfl, .inl rfl, .inl rfl, .inr ⟨rfl, trivial⟩, trivial⟩
                  · exfalso; (first | omega | (have z0_ := unhid c731; have z1_ := unhid c732; have z2_ := unhid c733; omega))
                refine go_ifq PM33 (k := 1) (p1 := 93) (p2 := 88) (L' := [some (.inr (.inr (some 35))), some (.inl l8_1), some (.inl l8_2), some (.inl v_h730)]) (st' := []) (w' := (SH, dt630)) rfl (z_eq (a := l8_1) (by first | exact bnd i633 (by decide) (by decide) | exact ⟨by (first | omega | (have z0_ := unhid c731; have z1_ := unhid c732; have z2_ := unhid c733; omega)), by (first | omega | (have z0_ := unhid c731; have z1_ := unhid c732; have z2_ := unhid c733; omega))⟩)) (fun c791 => ?_) (fun c791 => ?_)
                · skip
                  exact GO.le (j777 dt630 hI631 hF632 (by (first | omega | (have z0_ := unhid c731; have z1_ := unhid c732; have z2_ := unhid c733; omega)))) ⟨.inl rfl, .inr ⟨rfl, trivial⟩, .inl rfl, .inl rfl, trivial⟩
                · skip
                  replace c791 := hid c791
                  refine go_toq PM33 (k := 2) (pc' := 90) (L' := [some (.inr (.inr (some 35))), some (.inl l8_1), some (.inl l8_2), some (.inl v_h730)]) (st' := [.inl l8_1, .inr (.inr (some 35))]) (w' := (SH, dt630)) rfl ?_
                  have u7_ := hid (And.intro (unhid c731) (And.intro (unhid c732) (And.intro (unhid c733) (unhid c791))))
                  refine go_callq PM33 PM30 (Q' := _) rfl rfl rfl rfl (sp_X1_emit L xs sio (d + 1) dt630 hI631  l8_1 (by first | exact bnd i633 (by decide) (by decide) | exact ⟨by (first | omega | (have z_ := unhid u7_; omega)), by (first | omega | (have z_ := unhid u7_; omega))⟩) ) ?_
                  rintro _ _ ⟨dt793, rfl, hI794, hF795, h792⟩
                  refine ⟨rfl, ?_⟩
                  have hF796 : Fr [35, 42] dt dt793 := Fr_tr hF632 hF795 (by decide)
                  rcases h792 with ⟨rfl, h792⟩
                  exact GO.le (j777 dt793 hI794 hF796 (by (first | omega | (have z_ := unhid u7_; omega)))) ⟨.inl rfl, .inr ⟨rfl, trivial⟩, .inl rfl, .inl rfl, trivial⟩
          · skip
            have r797 : (-2147483648) ≤ dt630 35 8 ∧ dt630 35 8 ≤ 2147483647 := InvC_get hI631 35 8 rfl rfl
            refine go_toq PM33 (k := 5) (pc' := 62) (L' := [some (.inr (.inr (some 35))), some (.inl l8_1), some (.inl l8_2), some (.inl v_h730)]) (st' := [.inl ((dt630 35 8) + 1), .inr (.inr (some 35))]) (w' := (SH, dt630)) rfl ?_
            have r798 := wr_RR ((dt630 35 8) + 1)
            have hI799 : InvC (u2 dt630 35 8 (wr ((dt630 35 8) + 1))) := InvC_u2 hI631 (lo := -2147483648) (hi := 2147483647) rfl rfl rfl (by (first | omega | (have z0_ := unhid c731; omega))) (by (first | omega | (have z0_ := unhid c731; omega)))
            have hF800 : Fr [35, 42] dt (u2 dt630 35 8 (wr ((dt630 35 8) + 1))) := Fr_u2 hF632 (by decide)
            have w801 : (u2 dt630 35 8 (wr ((dt630 35 8) + 1))) 35 1 = dt630 35 1 := rfl
            refine go_smpq PM33 (L' := [some (.inr (.inr (some 35))), some (.inl l8_1), some (.inl l8_2), some (.inl v_h730)]) (st' := []) (w' := (SH, (u2 dt630 35 8 (wr ((dt630 35 8) + 1))))) rfl rfl (s_pfw rfl rfl rfl rfl) ?_
            refine go_toq PM33 (k := 1) (pc' := 66) (L' := [some (.inr (.inr (some 35))), some (.inl l8_1), some (.inl l8_2), some (.inl v_h730)]) (st' := [.inr (.inr (some 35))]) (w' := (SH, (u2 dt630 35 8 (wr ((dt630 35 8) + 1))))) rfl ?_
            refine go_callq PM33 PM34 (Q' := _) rfl rfl rfl rfl (sp_X1_part L xs sio (d + 0) (u2 dt630 35 8 (wr ((dt630 35 8) + 1))) hI799   ) ?_
            rintro _ _ ⟨dt803, rfl, hI804, hF805, h802⟩
            refine ⟨rfl, ?_⟩
            have hF806 : Fr [35, 42] dt dt803 := Fr_tr hF800 hF805 (by decide)
            rcases h802 with ⟨rfl, h802⟩
            refine go_toq PM33 (k := 3) (pc' := 8) (L' := [some (.inr (.inr (some 35))), some (.inl l8_1), some (.inl (l8_2 + 1)), some (.inl v_h730)]) (st' := []) (w' := (SH, dt803)) rfl ?_
            exact GO.le (ih_loop636 l8_1 (l8_2 + 1) dt803 hI804 hF806 (by first | exact bnd i633 (by decide) (by decide) | (first | omega | (have z0_ := unhid c731; omega))) (by first | exact bndp i634 (by decide) (by decide) | (first | omega | (have z0_ := unhid c731; omega))) (by (first | omega | (have z0_ := unhid c731; omega))) (by (first | omega | (have z0_ := unhid c731; omega)))) ⟨.inl rfl, .inl rfl, .inl rfl, .inr ⟨rfl, trivial⟩, trivial⟩
        · skip
          have r807 : (-2147483648) ≤ dt630 35 8 ∧ dt630 35 8 ≤ 2147483647 := InvC_get hI631 35 8 rfl rfl
          refine go_toq PM33 (k := 5) (pc' := 33) (L' := [some (.inr (.inr (some 35))), some (.inl l8_1), some (.inl l8_2), some (.inl v_h730)]) (st' := [.inl ((dt630 35 8) + 1), .inr (.inr (some 35))]) (w' := (SH, dt630)) rfl ?_
          have r808 := wr_RR ((dt630 35 8) + 1)
          have hI809 : InvC (u2 dt630 35 8 (wr ((dt630 35 8) + 1))) := InvC_u2 hI631 (lo := -2147483648) (hi := 2147483647) rfl rfl rfl (by omega) (by omega)
          have hF810 : Fr [35, 42] dt (u2 dt630 35 8 (wr ((dt630 35 8) + 1))) := Fr_u2 hF632 (by decide)
          have w811 : (u2 dt630 35 8 (wr ((dt630 35 8) + 1))) 35 1 = dt630 35 1 := rfl
          refine go_smpq PM33 (L' := [some (.inr (.inr (some 35))), some (.inl l8_1), some (.inl l8_2), some (.inl v_h730)]) (st' := []) (w' := (SH, (u2 dt630 35 8 (wr ((dt630 35 8) + 1))))) rfl rfl (s_pfw rfl rfl rfl rfl) ?_
          refine go_toq PM33 (k := 1) (pc' := 37) (L' := [some (.inr (.inr (some 35))), some (.inl l8_1), some (.inl l8_2), some (.inl v_h730)]) (st' := [.inr (.inr (some 35))]) (w' := (SH, (u2 dt630 35 8 (wr ((dt630 35 8) + 1))))) rfl ?_
          refine go_callq PM33 PM35 (Q' := _) rfl rfl rfl rfl (sp_X1_unit L xs sio (d + 0) (u2 dt630 35 8 (wr ((dt630 35 8) + 1))) hI809   ) ?_
          rintro _ _ ⟨dt813, rfl, hI814, hF815, h812⟩
          refine ⟨rfl, ?_⟩
          have hF816 : Fr [35, 42] dt dt813 := Fr_tr hF810 hF815 (by decide)
          rcases h812 with ⟨rfl, h812⟩
          refine go_toq PM33 (k := 2) (pc' := 43) (L' := [some (.inr (.inr (some 35))), some (.inl l8_1), some (.inl l8_2), some (.inl v_h730)]) (st' := [.inl (-3), .inr (.inr (some 35))]) (w' := (SH, dt813)) rfl ?_
          refine go_callq PM33 PM30 (Q' := _) rfl rfl rfl rfl (sp_X1_emit L xs sio (d + 1) dt813 hI814  (-3) ⟨by decide, by decide⟩ ) ?_
          rintro _ _ ⟨dt818, rfl, hI819, hF820, h817⟩
          refine ⟨rfl, ?_⟩
          have hF821 : Fr [35, 42] dt dt818 := Fr_tr hF816 hF820 (by decide)
          rcases h817 with ⟨rfl, h817⟩
          refine go_toq PM33 (k := 3) (pc' := 8) (L' := [some (.inr (.inr (some 35))), some (.inl l8_1), some (.inl (l8_2 + 1)), some (.inl v_h730)]) (st' := []) (w' := (SH, dt818)) rfl ?_
          exact GO.le (ih_loop636 l8_1 (l8_2 + 1) dt818 hI819 hF821 (by first | exact bnd i633 (by decide) (by decide) | omega) (by first | exact bndp i634 (by decide) (by decide) | omega) (by omega) (by omega)) ⟨.inl rfl, .inl rfl, .inl rfl, .inr ⟨rfl, trivial⟩, trivial⟩
  exact GO.le (loop636 _ 0 0 dt2 hI3 hF5 ⟨by decide, by decide⟩ ⟨by decide, by decide⟩ (by omega) (Nat.lt_succ_self _)) ⟨.inl rfl, .inl rfl, .inl rfl, .inl rfl, trivial⟩
theorem sp_X1_single_8 (L : Nat) (xs : Nat → Int32) (sio : Option Nat) (d : Nat) (dt : Nat → Nat → Int) (hI : InvC dt)    : GO (am_XX L xs sio) (d + 3) 32 0 [some (.inr (.inr (some 35))), some (.inl 8), none, none] [] (SH, dt) (fun r w2 => ∃ dt2 : Nat → Nat → Int, w2 = (SH, dt2) ∧ InvC dt2 ∧ Fr [35, 42] dt dt2 ∧ ((r = none ∧ (dt2 35 1 = dt 35 1)))) := by
  have hF : Fr [35, 42] dt dt := Fr_refl
  refine go_toq PM32 (k := 1) (pc' := 1) (L' := [some (.inr (.inr (some 35))), some (.inl 8), none, none]) (st' := [.inr (.inr (some 35))]) (w' := (SH, dt)) rfl ?_
  refine go_callq PM32 PM20 (Q' := _) rfl rfl rfl rfl (sp_X1_token L xs sio (d + 2) dt hI   ) ?_
  rintro _ _ ⟨rfl, h1⟩
  refine ⟨rfl, ?_⟩
  rcases h1 with ⟨v_h1, rfl, h1r, h1⟩
  refine go_ifq PM32 (k := 1) (p1 := 14) (p2 := 10) (L' := [some (.inr (.inr (some 35))), some (.inl 8), none, none]) (st' := []) (w' := (SH, dt)) rfl (c_ne (a := v_h1) (b := 1005) (by first | exact bnd h1r (by decide) (by decide) | exact ⟨by omega, by omega⟩) ⟨by decide, by decide⟩) (fun c3 => ?_) (fun c3 => ?_)
  · skip
    replace c3 := hid c3
    refine go_toq PM32 (k := 5) (pc' := 21) (L' := [some (.inr (.inr (some 35))), some (.inl 8), some (.inl 0), none]) (st' := [.inr (.inr (some 35))]) (w' := (SH, dt)) rfl ?_
    refine go_callq PM32 PM20 (Q' := _) rfl rfl rfl rfl (sp_X1_token L xs sio (d + 2) dt hI   ) ?_
    rintro _ _ ⟨rfl, h4⟩
    refine ⟨rfl, ?_⟩
    rcases h4 with ⟨v_h4, rfl, h4r, h4⟩
    refine go_ifq PM32 (k := 1) (p1 := 107) (p2 := 29) (L' := [some (.inr (.inr (some 35))), some (.inl 8), some (.inl 0), none]) (st' := []) (w' := (SH, dt)) rfl (c_eq (a := v_h4) (b := 40) (by first | exact bnd h4r (by decide) (by decide) | exact ⟨by (first | omega | (have z0_ := unhid c3; omega)), by (first | omega | (have z0_ := unhid c3; omega))⟩) ⟨by decide, by decide⟩) (fun c5 => ?_) (fun c5 => ?_)
    · skip
      refine go_toq PM32 (k := 5) (pc' := 115) (L' := [some (.inr (.inr (some 35))), some (.inl 8), some (.inl 0), none]) (st' := [.inl 3, .inr (.inr (some 35))]) (w' := (SH, dt)) rfl ?_
      refine go_callq PM32 PM21 (Q' := _) rfl rfl rfl rfl (sp_X1_fail L xs sio (d + 2) dt hI  3 ⟨by decide, by decide⟩ ) ?_
      rintro _ _ ⟨dt12, rfl, hI13, hF14, h11⟩
      refine ⟨rfl, ?_⟩
      have hF15 : Fr [35, 42] dt dt12 := Fr_tr hF hF14 (by decide)
      rcases h11 with ⟨rfl, h11⟩
      refine go_retq PM32 (k := 1) (r := none) (w1 := (SH, dt12)) rfl ?_
      exact ⟨dt12, rfl, hI13, hF15, ⟨rfl, by first | exact True.intro | with_reducible assumption | exact unhid (by with_reducible assumption) | rfl | (first | omega | (have z0_ := unhid c3; omega)) | trivial⟩⟩
    · skip
      replace c5 := hid c5
      refine go_toq PM32 (k := 1) (pc' := 30) (L' := [some (.inr (.inr (some 35))), some (.inl 8), some (.inl 0), none]) (st' := [.inr (.inr (some 35))]) (w' := (SH, dt)) rfl ?_
      refine go_callq PM32 PM33 (Q' := _) rfl rfl rfl rfl (sp_X1_sum L xs sio (d + 0) dt hI   ) ?_
      rintro _ _ ⟨dt17, rfl, hI18, hF19, h16⟩
      refine ⟨rfl, ?_⟩
      have hF20 : Fr [35, 42] dt dt17 := Fr_tr hF hF19 (by decide)
      rcases h16 with ⟨rfl, h16⟩
      refine go_toq PM32 (k := 1) (pc' := 34) (L' := [some (.inr (.inr (some 35))), some (.inl 8), some (.inl 0), none]) (st' := [.inr (.inr (some 35))]) (w' := (SH, dt17)) rfl ?_
      refine go_callq PM32 PM20 (Q' := _) rfl rfl rfl rfl (sp_X1_token L xs sio (d + 2) dt17 hI18   ) ?_
      rintro _ _ ⟨rfl, h21⟩
      refine ⟨rfl, ?_⟩
      rcases h21 with ⟨v_h21, rfl, h21r, h21⟩
      refine go_ifq PM32 (k := 3) (p1 := 62) (p2 := 44) (L' := [some (.inr (.inr (some 35))), some (.inl 8), some (.inl 0), some (.inl v_h21)]) (st' := []) (w' := (SH, dt17)) rfl (c_eq (a := v_h21) (b := 60) (by first | exact bnd h21r (by decide) (by decide) | exact ⟨by (first | omega | (have z0_ := unhid c3; have z1_ := unhid c5; omega)), by (first | omega | (have z0_ := unhid c3; have z1_ := unhid c5; omega))⟩) ⟨by decide, by decide⟩) (fun c22 => ?_) (fun c22 => ?_)
      · skip
        have r23 : (-2147483648) ≤ dt17 35 8 ∧ dt17 35 8 ≤ 2147483647 := InvC_get hI18 35 8 rfl rfl
        refine go_toq PM32 (k := 5) (pc' := 69) (L' := [some (.inr (.inr (some 35))), some (.inl 8), some (.inl 0), some (.inl v_h21)]) (st' := [.inl ((dt17 35 8) + 1), .inr (.inr (some 35))]) (w' := (SH, dt17)) rfl ?_
        have r24 := wr_RR ((dt17 35 8) + 1)
        have hI25 : InvC (u2 dt17 35 8 (wr ((dt17 35 8) + 1))) := InvC_u2 hI18 (lo := -2147483648) (hi := 2147483647) rfl rfl rfl (by (first | omega | (have z0_ := unhid c3; have z1_ := unhid c5; omega))) (by (first | omega | (have z0_ := unhid c3; have z1_ := unhid c5; omega)))
        have hF26 : Fr [35, 42] dt (u2 dt17 35 8 (wr ((dt17 35 8) + 1))) := Fr_u2 hF20 (by decide)
        have w27 : (u2 dt17 35 8 (wr ((dt17 35 8) + 1))) 35 1 = dt17 35 1 := rfl
        refine go_smpq PM32 (L' := [some (.inr (.inr (some 35))), some (.inl 8), some (.inl 0), some (.inl v_h21)]) (st' := []) (w' := (SH, (u2 dt17 35 8 (wr ((dt17 35 8) + 1))))) rfl rfl (s_pfw rfl rfl rfl rfl) ?_
        refine go_toq PM32 (k := 1) (pc' := 73) (L' := [some (.inr (.inr (some 35))), some (.inl 8), some (.inl 0), some (.inl v_h21)]) (st' := [.inr (.inr (some 35))]) (w' := (SH, (u2 dt17 35 8 (wr ((dt17 35 8) + 1))))) rfl ?_
        refine go_callq PM32 PM33 (Q' := _) rfl rfl rfl rfl (sp_X1_sum L xs sio (d + 0) (u2 dt17 35 8 (wr ((dt17 35 8) + 1))) hI25   ) ?_
        rintro _ _ ⟨dt29, rfl, hI30, hF31, h28⟩
        refine ⟨rfl, ?_⟩
        have hF32 : Fr [35, 42] dt dt29 := Fr_tr hF26 hF31 (by decide)
        rcases h28 with ⟨rfl, h28⟩
        refine go_ifq PM32 (k := 3) (p1 := 88) (p2 := 83) (L' := [some (.inr (.inr (some 35))), some (.inl 8), some (.inl 0), some (.inl v_h21)]) (st' := [.inr (.inr (some 35))]) (w' := (SH, dt29)) rfl (c_ne (a := v_h21) (b := 60) (by first | exact bnd h21r (by decide) (by decide) | exact ⟨by (first | omega | (have z0_ := unhid c3; have z1_ := unhid c5; omega)), by (first | omega | (have z0_ := unhid c3; have z1_ := unhid c5; omega))⟩) ⟨by decide, by decide⟩) (fun c35 => ?_) (fun c35 => ?_)
        · skip
          replace c35 := hid c35
          refine go_ifq PM32 (k := 2) (p1 := 99) (p2 := 94) (L' := [some (.inr (.inr (some 35))), some (.inl 8), some (.inl 0), some (.inl v_h21)]) (st' := [.inr (.inr (some 35))]) (w' := (SH, dt29)) rfl (c_ne (a := v_h21) (b := 61) (by first | exact bnd h21r (by decide) (by decide) | exact ⟨by (first | omega | (have z0_ := unhid c3; have z1_ := unhid c5; have z2_ := unhid c35; omega)), by (first | omega | (have z0_ := unhid c3; have z1_ := unhid c5; have z2_ := unhid c35; omega))⟩) ⟨by decide, by decide⟩) (fun c37 => ?_) (fun c37 => ?_)
          · skip
            replace c37 := hid c37
            refine go_toq PM32 (k := 1) (pc' := 101) (L' := [some (.inr (.inr (some 35))), some (.inl 8), some (.inl 0), some (.inl v_h21)]) (st' := [.inl (-7), .inr (.inr (some 35))]) (w' := (SH, dt29)) rfl ?_
            refine go_callq PM32 PM30 (Q' := _) rfl rfl rfl rfl (sp_X1_emit L xs sio (d + 2) dt29 hI30  (-7) ⟨by decide, by decide⟩ ) ?_
            rintro _ _ ⟨dt39, rfl, hI40, hF41, h38⟩
            refine ⟨rfl, ?_⟩
            have hF42 : Fr [35, 42] dt dt39 := Fr_tr hF32 hF41 (by decide)
            rcases h38 with ⟨rfl, h38⟩
            refine go_retq PM32 (k := 1) (r := none) (w1 := (SH, dt39)) rfl ?_
            have u8_ := hid (And.intro (unhid c3) (And.intro (unhid c5) (And.intro (unhid c35) (unhid c37))))
            exact ⟨dt39, rfl, hI40, hF42, ⟨rfl, by first | exact True.intro | with_reducible assumption | exact unhid (by with_reducible assumption) | rfl | (first | omega | (have z_ := unhid u8_; omega)) | trivial⟩⟩
          · exfalso; (first | omega | (have z0_ := unhid c3; have z1_ := unhid c5; have z2_ := unhid c35; omega))
        · skip
          refine go_toq PM32 (k := 2) (pc' := 101) (L' := [some (.inr (.inr (some 35))), some (.inl 8), some (.inl 0), some (.inl v_h21)]) (st' := [.inl (-5), .inr (.inr (some 35))]) (w' := (SH, dt29)) rfl ?_
          refine go_callq PM32 PM30 (Q' := _) rfl rfl rfl rfl (sp_X1_emit L xs sio (d + 2) dt29 hI30  (-5) ⟨by decide, by decide⟩ ) ?_
          rintro _ _ ⟨dt44, rfl, hI45, hF46, h43⟩
          refine ⟨rfl, ?_⟩
          have hF47 : Fr [35, 42] dt dt44 := Fr_tr hF32 hF46 (by decide)
          rcases h43 with ⟨rfl, h43⟩
          refine go_retq PM32 (k := 1) (r := none) (w1 := (SH, dt44)) rfl ?_
          exact ⟨dt44, rfl, hI45, hF47, ⟨rfl, by first | exact True.intro | with_reducible assumption | exact unhid (by with_reducible assumption) | rfl | (first | omega | (have z0_ := unhid c3; have z1_ := unhid c5; omega)) | trivial⟩⟩
      · skip
        replace c22 := hid c22
        refine go_ifq PM32 (k := 2) (p1 := 62) (p2 := 50) (L' := [some (.inr (.inr (some 35))), some (.inl 8), some (.inl 0), some (.inl v_h21)]) (st' := []) (w' := (SH, dt17)) rfl (c_eq (a := v_h21) (b := 61) (by first | exact bnd h21r (by decide) (by decide) | exact ⟨by (first | omega | (have z0_ := unhid c3; have z1_ := unhid c5; have z2_ := unhid c22; omega)), by (first | omega | (have z0_ := unhid c3; have z1_ := unhid c5; have z2_ := unhid c22; omega))⟩) ⟨by decide, by decide⟩) (fun c48 => ?_) (fun c48 => ?_)
        · skip
          have r49 : (-2147483648) ≤ dt17 35 8 ∧ dt17 35 8 ≤ 2147483647 := InvC_get hI18 35 8 rfl rfl
          refine go_toq PM32 (k := 5) (pc' := 69) (L' := [some (.inr (.inr (some 35))), some (.inl 8), some (.inl 0), some (.inl v_h21)]) (st' := [.inl ((dt17 35 8) + 1), .inr (.inr (some 35))]) (w' := (SH, dt17)) rfl ?_
          have r50 := wr_RR ((dt17 35 8) + 1)
          have hI51 : InvC (u2 dt17 35 8 (wr ((dt17 35 8) + 1))) := InvC_u2 hI18 (lo := -2147483648) (hi := 2147483647) rfl rfl rfl (by (first | omega | (have z0_ := unhid c3; have z1_ := unhid c5; have z2_ := unhid c22; omega))) (by (first | omega | (have z0_ := unhid c3; have z1_ := unhid c5; have z2_ := unhid c22; omega)))
          have hF52 : Fr [35, 42] dt (u2 dt17 35 8 (wr ((dt17 35 8) + 1))) := Fr_u2 hF20 (by decide)
          have w53 : (u2 dt17 35 8 (wr ((dt17 35 8) + 1))) 35 1 = dt17 35 1 := rfl
          refine go_smpq PM32 (L' := [some (.inr (.inr (some 35))), some (.inl 8), some (.inl 0), some (.inl v_h21)]) (st' := []) (w' := (SH, (u2 dt17 35 8 (wr ((dt17 35 8) + 1))))) rfl rfl (s_pfw rfl rfl rfl rfl) ?_
          refine go_toq PM32 (k := 1) (pc' := 73) (L' := [some (.inr (.inr (some 35))), some (.inl 8), some (.inl 0), some (.inl v_h21)]) (st' := [.inr (.inr (some 35))]) (w' := (SH, (u2 dt17 35 8 (wr ((dt17 35 8) + 1))))) rfl ?_
          refine go_callq PM32 PM33 (Q' := _) rfl rfl rfl rfl (sp_X1_sum L xs sio (d + 0) (u2 dt17 35 8 (wr ((dt17 35 8) + 1))) hI51   ) ?_
          rintro _ _ ⟨dt55, rfl, hI56, hF57, h54⟩
          refine ⟨rfl, ?_⟩
          have hF58 : Fr [35, 42] dt dt55 := Fr_tr hF52 hF57 (by decide)
          rcases h54 with ⟨rfl, h54⟩
          refine go_ifq PM32 (k := 3) (p1 := 88) (p2 := 83) (L' := [some (.inr (.inr (some 35))), some (.inl 8), some (.inl 0), some (.inl v_h21)]) (st' := [.inr (.inr (some 35))]) (w' := (SH, dt55)) rfl (c_ne (a := v_h21) (b := 60) (by first | exact bnd h21r (by decide) (by decide) | exact ⟨by (first | omega | (have z0_ := unhid c3; have z1_ := unhid c5; have z2_ := unhid c22; omega)), by (first | omega | (have z0_ := unhid c3; have z1_ := unhid c5; have z2_ := unhid c22; omega))⟩) ⟨by decide, by decide⟩) (fun c61 => ?_) (fun c61 => ?_)
          · skip
            replace c61 := hid c61
            have u9_ := hid (And.intro (unhid c3) (And.intro (unhid c5) (And.intro (unhid c22) (unhid c61))))
            refine go_ifq PM32 (k := 2) (p1 := 99) (p2 := 94) (L' := [some (.inr (.inr (some 35))), some (.inl 8), some (.inl 0), some (.inl v_h21)]) (st' := [.inr (.inr (some 35))]) (w' := (SH, dt55)) rfl (c_ne (a := v_h21) (b := 61) (by first | exact bnd h21r (by decide) (by decide) | exact ⟨by (first | omega | (have z_ := unhid u9_; omega)), by (first | omega | (have z_ := unhid u9_; omega))⟩) ⟨by decide, by decide⟩) (fun c63 => ?_) (fun c63 => ?_)
            · skip
              replace c63 := hid c63
              refine go_toq PM32 (k := 1) (pc' := 101) (L' := [some (.inr (.inr (some 35))), some (.inl 8), some (.inl 0), some (.inl v_h21)]) (st' := [.inl (-7), .inr (.inr (some 35))]) (w' := (SH, dt55)) rfl ?_
              refine go_callq PM32 PM30 (Q' := _) rfl rfl rfl rfl (sp_X1_emit L xs sio (d + 2) dt55 hI56  (-7) ⟨by decide, by decide⟩ ) ?_
              rintro _ _ ⟨dt65, rfl, hI66, hF67, h64⟩
              refine ⟨rfl, ?_⟩
              have hF68 : Fr [35, 42] dt dt65 := Fr_tr hF58 hF67 (by decide)
              rcases h64 with ⟨rfl, h64⟩
              refine go_retq PM32 (k := 1) (r := none) (w1 := (SH, dt65)) rfl ?_
              have u10_ := hid (And.intro (unhid c3) (And.intro (unhid c5) (And.intro (unhid c22) (And.intro (unhid c61) (unhid c63)))))
              exact ⟨dt65, rfl, hI66, hF68, ⟨rfl, by first | exact True.intro | with_reducible assumption | exact unhid (by with_reducible assumption) | rfl | (first | omega | (have z_ := unhid u10_; omega)) | trivial⟩⟩
            · skip
              refine go_toq PM32 (k := 2) (pc' := 101) (L' := [some (.inr (.inr (some 35))), some (.inl 8), some (.inl 0), some (.inl v_h21)]) (st' := [.inl (-6), .inr (.inr (some 35))]) (w' := (SH, dt55)) rfl ?_
              refine go_callq PM32 PM30 (Q' := _) rfl rfl rfl rfl (sp_X1_emit L xs sio (d + 2) dt55 hI56  (-6) ⟨by decide, by decide⟩ ) ?_
              rintro _ _ ⟨dt70, rfl, hI71, hF72, h69⟩
              refine ⟨rfl, ?_⟩
              have hF73 : Fr [35, 42] dt dt70 := Fr_tr hF58 hF72 (by decide)
              rcases h69 with ⟨rfl, h69⟩
              refine go_retq PM32 (k := 1) (r := none) (w1 := (SH, dt70)) rfl ?_
              exact ⟨dt70, rfl, hI71, hF73, ⟨rfl, by first | exact True.intro | with_reducible assumption | exact unhid (by with_reducible assumption) | rfl | (first | omega | (have z_ := unhid u9_; omega)) | trivial⟩⟩
          · exfalso; (first | omega | (have z0_ := unhid c3; have z1_ := unhid c5; have z2_ := unhid c22; omega))
        · skip
          replace c48 := hid c48
          have u11_ := hid (And.intro (unhid c3) (And.intro (unhid c5) (And.intro (unhid c22) (unhid c48))))
          refine go_ifq PM32 (k := 2) (p1 := 62) (p2 := 56) (L' := [some (.inr (.inr (some 35))), some (.inl 8), some (.inl 0), some (.inl v_h21)]) (st' := []) (w' := (SH, dt17)) rfl (c_eq (a := v_h21) (b := 62) (by first | exact bnd h21r (by decide) (by decide) | exact ⟨by (first | omega | (have z_ := unhid u11_; omega)), by (first | omega | (have z_ := unhid u11_; omega))⟩) ⟨by decide, by decide⟩) (fun c74 => ?_) (fun c74 => ?_)
          · skip
            have r75 : (-2147483648) ≤ dt17 35 8 ∧ dt17 35 8 ≤ 2147483647 := InvC_get hI18 35 8 rfl rfl
            refine go_toq PM32 (k := 5) (pc' := 69) (L' := [some (.inr (.inr (some 35))), some (.inl 8), some (.inl 0), some (.inl v_h21)]) (st' := [.inl ((dt17 35 8) + 1), .inr (.inr (some 35))]) (w' := (SH, dt17)) rfl ?_
            have r76 := wr_RR ((dt17 35 8) + 1)
            have hI77 : InvC (u2 dt17 35 8 (wr ((dt17 35 8) + 1))) := InvC_u2 hI18 (lo := -2147483648) (hi := 2147483647) rfl rfl rfl (by (first | omega | (have z_ := unhid u11_; omega))) (by (first | omega | (have z_ := unhid u11_; omega)))
            have hF78 : Fr [35, 42] dt (u2 dt17 35 8 (wr ((dt17 35 8) + 1))) := Fr_u2 hF20 (by decide)
            have w79 : (u2 dt17 35 8 (wr ((dt17 35 8) + 1))) 35 1 = dt17 35 1 := rfl
            refine go_smpq PM32 (L' := [some (.inr (.inr (some 35))), some (.inl 8), some (.inl 0), some (.inl v_h21)]) (st' := []) (w' := (SH, (u2 dt17 35 8 (wr ((dt17 35 8) + 1))))) rfl rfl (s_pfw rfl rfl rfl rfl) ?_
            refine go_toq PM32 (k := 1) (pc' := 73) (L' := [some (.inr (.inr (some 35))), some (.inl 8), some (.inl 0), some (.inl v_h21)]) (st' := [.inr (.inr (some 35))]) (w' := (SH, (u2 dt17 35 8 (wr ((dt17 35 8) + 1))))) rfl ?_
            refine go_callq PM32 PM33 (Q' := _) rfl rfl rfl rfl (sp_X1_sum L xs sio (d + 0) (u2 dt17 35 8 (wr ((dt17 35 8) + 1))) hI77   ) ?_
            rintro _ _ ⟨dt81, rfl, hI82, hF83, h80⟩
            refine ⟨rfl, ?_⟩
            have hF84 : Fr [35, 42] dt dt81 := Fr_tr hF78 hF83 (by decide)
            rcases h80 with ⟨rfl, h80⟩
            refine go_ifq PM32 (k := 3) (p1 := 88) (p2 := 83) (L' := [some (.inr (.inr (some 35))), some (.inl 8), some (.inl 0), some (.inl v_h21)]) (st' := [.inr (.inr (some 35))]) (w' := (SH, dt81)) rfl (c_ne (a := v_h21) (b := 60) (by first | exact bnd h21r (by decide) (by decide) | exact ⟨by (first | omega | (have z_ := unhid u11_; omega)), by (first | omega | (have z_ := unhid u11_; omega))⟩) ⟨by decide, by decide⟩) (fun c87 => ?_) (fun c87 => ?_)
            · skip
              replace c87 := hid c87
              have u12_ := hid (And.intro (unhid c3) (And.intro (unhid c5) (And.intro (unhid c22) (And.intro (unhid c48) (unhid c87)))))
              refine go_ifq PM32 (k := 2) (p1 := 99) (p2 := 94) (L' := [some (.inr (.inr (some 35))), some (.inl 8), some (.inl 0), some (.inl v_h21)]) (st' := [.inr (.inr (some 35))]) (w' := (SH, dt81)) rfl (c_ne (a := v_h21) (b := 61) (by first | exact bnd h21r (by decide) (by decide) | exact ⟨by (first | omega | (have z_ := unhid u12_; omega)), by (first | omega | (have z_ := unhid u12_; omega))⟩) ⟨by decide, by decide⟩) (fun c89 => ?_) (fun c89 => ?_)
              · skip
                replace c89 := hid c89
                refine go_toq PM32 (k := 1) (pc' := 101) (L' := [some (.inr (.inr (some 35))), some (.inl 8), some (.inl 0), some (.inl v_h21)]) (st' := [.inl (-7), .inr (.inr (some 35))]) (w' := (SH, dt81)) rfl ?_
                refine go_callq PM32 PM30 (Q' := _) rfl rfl rfl rfl (sp_X1_emit L xs sio (d + 2) dt81 hI82  (-7) ⟨by decide, by decide⟩ ) ?_
                rintro _ _ ⟨dt91, rfl, hI92, hF93, h90⟩
                refine ⟨rfl, ?_⟩
                have hF94 : Fr [35, 42] dt dt91 := Fr_tr hF84 hF93 (by decide)
                rcases h90 with ⟨rfl, h90⟩
                refine go_retq PM32 (k := 1) (r := none) (w1 := (SH, dt91)) rfl ?_
                have u13_ := hid (And.intro (unhid c3) (And.intro (unhid c5) (And.intro (unhid c22) (And.intro (unhid c48) (And.intro (unhid c87) (unhid c89))))))
                exact ⟨dt91, rfl, hI92, hF94, ⟨rfl, by first | exact True.intro | with_reducible assumption | exact unhid (by with_reducible assumption) | rfl | (first | omega | (have z_ := unhid u13_; omega)) | trivial⟩⟩
              · exfalso; (first | omega | (have z_ := unhid u12_; omega))
            · exfalso; (first | omega | (have z_ := unhid u11_; omega))
          · skip
            replace c74 := hid c74
            refine go_toq PM32 (k := 2) (pc' := 58) (L' := [some (.inr (.inr (some 35))), some (.inl 8), some (.inl 0), some (.inl v_h21)]) (st' := [.inl 1, .inr (.inr (some 35))]) (w' := (SH, dt17)) rfl ?_
            refine go_callq PM32 PM21 (Q' := _) rfl rfl rfl rfl (sp_X1_fail L xs sio (d + 2) dt17 hI18  1 ⟨by decide, by decide⟩ ) ?_
            rintro _ _ ⟨dt96, rfl, hI97, hF98, h95⟩
            refine ⟨rfl, ?_⟩
            have hF99 : Fr [35, 42] dt dt96 := Fr_tr hF20 hF98 (by decide)
            rcases h95 with ⟨rfl, h95⟩
            refine go_retq PM32 (k := 0) (r := none) (w1 := (SH, dt96)) rfl ?_
            have u14_ := hid (And.intro (unhid c3) (And.intro (unhid c5) (And.intro (unhid c22) (And.intro (unhid c48) (unhid c74)))))
            exact ⟨dt96, rfl, hI97, hF99, ⟨rfl, by first | exact True.intro | with_reducible assumption | exact unhid (by with_reducible assumption) | rfl | (first | omega | (have z_ := unhid u14_; omega)) | trivial⟩⟩
  · skip
    refine go_toq PM32 (k := 10) (pc' := 115) (L' := [some (.inr (.inr (some 35))), some (.inl 8), some (.inl 1), none]) (st' := [.inl 3, .inr (.inr (some 35))]) (w' := (SH, dt)) rfl ?_
    refine go_callq PM32 PM21 (Q' := _) rfl rfl rfl rfl (sp_X1_fail L xs sio (d + 2) dt hI  3 ⟨by decide, by decide⟩ ) ?_
    rintro _ _ ⟨dt106, rfl, hI107, hF108, h105⟩
    refine ⟨rfl, ?_⟩
    have hF109 : Fr [35, 42] dt dt106 := Fr_tr hF hF108 (by decide)
    rcases h105 with ⟨rfl, h105⟩
    refine go_retq PM32 (k := 1) (r := none) (w1 := (SH, dt106)) rfl ?_
    exact ⟨dt106, rfl, hI107, hF109, ⟨rfl, by first | exact True.intro | with_reducible assumption | rfl | omega | trivial⟩⟩
theorem lv_X1_condition (L : Nat) (xs : Nat → Int32) (sio : Option Nat) (d : Nat) (dt : Nat → Nat → Int) (hI : InvC dt) (j : Nat) (IH_X1_single : ∀ (L : Nat) (xs : Nat → Int32) (sio : Option Nat) (d : Nat) (dt : Nat → Nat → Int) (hI : InvC dt) (p1 : Int) (h_p1 : 0 ≤ p1 ∧ p1 ≤ 8) (h_p0 : p1 + ((j : Nat) : Int) = 8) (h_p1 : 2 * j ≤ d), GO (am_XX L xs sio) (d + 3) 32 0 [some (.inr (.inr (some 35))), some (.inl p1), none, none] [] (SH, dt) (fun r w2 => ∃ dt2 : Nat → Nat → Int, w2 = (SH, dt2) ∧ InvC dt2 ∧ Fr [35, 42] dt dt2 ∧ ((r = none ∧ (dt2 35 1 = dt 35 1)))))  (p1 : Int) (h_p1 : 0 ≤ p1 ∧ p1 ≤ 8) (h_p0 : p1 + ((j : Nat) : Int) = 8) (h_p1 : 2 * j ≤ d) : GO (am_XX L xs sio) (d + 4) 31 0 [some (.inr (.inr (some 35))), some (.inl p1), none, none] [] (SH, dt) (fun r w2 => ∃ dt2 : Nat → Nat → Int, w2 = (SH, dt2) ∧ InvC dt2 ∧ Fr [35, 42] dt dt2 ∧ ((r = none ∧ (dt2 35 1 = dt 35 1)))) := by
  have hF : Fr [35, 42] dt dt := Fr_refl
  refine go_toq PM31 (k := 4) (pc' := 4) (L' := [some (.inr (.inr (some 35))), some (.inl p1), some (.inl 0), none]) (st' := [.inl p1, .inr (.inr (some 35))]) (w' := (SH, dt)) rfl ?_
  refine go_callq PM31 PM32 (Q' := _) rfl rfl rfl rfl (IH_X1_single L xs sio (d + 0) dt hI  p1 (by first | exact h_p1 | exact bnd h_p1 (by decide) (by decide) | exact ⟨by omega, by omega⟩) (by first | exact True.intro | with_reducible assumption | rfl | omega | trivial) (by first | exact True.intro | with_reducible assumption | rfl | omega | trivial)) ?_
  rintro _ _ ⟨dt2, rfl, hI3, hF4, h1⟩
  refine ⟨rfl, ?_⟩
  have hF5 : Fr [35, 42] dt dt2 := Fr_tr hF hF4 (by decide)
  rcases h1 with ⟨rfl, h1⟩
  refine go_toq PM31 (k := 2) (pc' := 9) (L' := [some (.inr (.inr (some 35))), some (.inl p1), some (.inl 0), some (.inl 0)]) (st' := []) (w' := (SH, dt2)) rfl ?_
  have loop604 : ∀ (k_ : Nat) (l9_2 : Int) (l9_3 : Int) (dt598 : Nat → Nat → Int) (hI599 : InvC dt598) (hF600 : Fr [35, 42] dt dt598) (i601 : 0 ≤ l9_2 ∧ l9_2 ≤ 1) (i602 : 0 ≤ l9_3 ∧ l9_3 ≤ 501) (i603 : dt598 35 1 = dt 35 1), (502 - l9_3).toNat < k_ → GO (am_XX L xs sio) (d + 4) 31 9 [some (.inr (.inr (some 35))), some (.inl p1), some (.inl l9_2), some (.inl l9_3)] [] (SH, dt598) (fun r w2 => ∃ dt2 : Nat → Nat → Int, w2 = (SH, dt2) ∧ InvC dt2 ∧ Fr [35, 42] dt dt2 ∧ ((r = none ∧ (dt2 35 1 = dt 35 1)))) := by
    intro k_
    induction k_ with
    | zero => intro l9_2 l9_3 dt598 hI599 hF600 i601 i602 i603 hm; exact absurd hm (Nat.not_lt_zero _)
    | succ k_ ih_loop604 =>
      intro l9_2 l9_3 dt598 hI599 hF600 i601 i602 i603 hm
      have j678 :  GO (am_XX L xs sio) (d + 4) 31 103 [some (.inr (.inr (some 35))), none, some (.inl l9_2), none] [] (SH, dt598) (fun r w2 => ∃ dt2 : Nat → Nat → Int, w2 = (SH, dt2) ∧ InvC dt2 ∧ Fr [35, 42] dt dt2 ∧ ((r = none ∧ (dt2 35 1 = dt 35 1)))) := by
        skip
        have j685 : ∀ (j685_d : Nat → Nat → Int) (j685_hI : InvC j685_d) (j685_hF : Fr [35, 42] dt j685_d) (i686 : j685_d 35 1 = dt 35 1), GO (am_XX L xs sio) (d + 4) 31 113 [some (.inr (.inr (some 35))), none, none, none] [] (SH, j685_d) (fun r w2 => ∃ dt2 : Nat → Nat → Int, w2 = (SH, dt2) ∧ InvC dt2 ∧ Fr [35, 42] dt dt2 ∧ ((r = none ∧ (dt2 35 1 = dt 35 1)))) := by
          intro j685_d j685_hI j685_hF i686
          refine go_retq PM31 (k := 0) (r := none) (w1 := (SH, j685_d)) rfl ?_
          exact ⟨j685_d, rfl, j685_hI, j685_hF, ⟨rfl, by first | exact True.intro | with_reducible assumption | rfl | omega | trivial⟩⟩
        refine go_ifq PM31 (k := 1) (p1 := 113) (p2 := 107) (L' := [some (.inr (.inr (some 35))), none, some (.inl l9_2), none]) (st' := []) (w' := (SH, dt598)) rfl (z_eq (a := l9_2) (by first | exact bnd i601 (by decide) (by decide) | exact ⟨by omega, by omega⟩)) (fun c687 => ?_) (fun c687 => ?_)
        · skip
          exact GO.le (j685 dt598 hI599 hF600 (by omega)) ⟨.inl rfl, .inl rfl, .inr ⟨rfl, trivial⟩, .inl rfl, trivial⟩
        · skip
          replace c687 := hid c687
          refine go_toq PM31 (k := 2) (pc' := 110) (L' := [some (.inr (.inr (some 35))), none, some (.inl l9_2), none]) (st' := [.inl (-10), .inr (.inr (some 35))]) (w' := (SH, dt598)) rfl ?_
          refine go_callq PM31 PM30 (Q' := _) rfl rfl rfl rfl (sp_X1_emit L xs sio (d + 3) dt598 hI599  (-10) ⟨by decide, by decide⟩ ) ?_
          rintro _ _ ⟨dt689, rfl, hI690, hF691, h688⟩
          refine ⟨rfl, ?_⟩
          have hF692 : Fr [35, 42] dt dt689 := Fr_tr hF600 hF691 (by decide)
          rcases h688 with ⟨rfl, h688⟩
          exact GO.le (j685 dt689 hI690 hF692 (by (first | omega | (have z0_ := unhid c687; omega)))) ⟨.inl rfl, .inl rfl, .inr ⟨rfl, trivial⟩, .inl rfl, trivial⟩
      refine go_ifq PM31 (k := 2) (p1 := 103) (p2 := 16) (L' := [some (.inr (.inr (some 35))), some (.inl p1), some (.inl l9_2), some (.inl l9_3)]) (st' := []) (w' := (SH, dt598)) rfl (c_gt (a := l9_3) (b := 500) (by first | exact bnd i602 (by decide) (by decide) | exact ⟨by omega, by omega⟩) ⟨by decide, by decide⟩) (fun c693 => ?_) (fun c693 => ?_)
      · skip
        exact GO.le (j678 ) ⟨.inl rfl, .inr ⟨rfl, trivial⟩, .inl rfl, .inr ⟨rfl, trivial⟩, trivial⟩
      · skip
        refine go_toq PM31 (k := 1) (pc' := 17) (L' := [some (.inr (.inr (some 35))), some (.inl p1), some (.inl l9_2), some (.inl l9_3)]) (st' := [.inr (.inr (some 35))]) (w' := (SH, dt598)) rfl ?_
        refine go_callq PM31 PM20 (Q' := _) rfl rfl rfl rfl (sp_X1_token L xs sio (d + 3) dt598 hI599   ) ?_
        rintro _ _ ⟨rfl, h694⟩
        refine ⟨rfl, ?_⟩
        rcases h694 with ⟨v_h694, rfl, h694r, h694⟩
        refine go_ifq PM31 (k := 1) (p1 := 36) (p2 := 26) (L' := [some (.inr (.inr (some 35))), some (.inl p1), some (.inl l9_2), some (.inl l9_3)]) (st' := []) (w' := (SH, dt598)) rfl (c_eq (a := v_h694) (b := 1004) (by first | exact bnd h694r (by decide) (by decide) | exact ⟨by omega, by omega⟩) ⟨by decide, by decide⟩) (fun c695 => ?_) (fun c695 => ?_)
        · skip
          refine go_toq PM31 (k := 1) (pc' := 37) (L' := [some (.inr (.inr (some 35))), some (.inl p1), some (.inl l9_2), some (.inl l9_3)]) (st' := [.inr (.inr (some 35))]) (w' := (SH, dt598)) rfl ?_
          refine go_callq PM31 PM20 (Q' := _) rfl rfl rfl rfl (sp_X1_token L xs sio (d + 3) dt598 hI599   ) ?_
          rintro _ _ ⟨rfl, h696⟩
          refine ⟨rfl, ?_⟩
          rcases h696 with ⟨v_h696, rfl, h696r, h696⟩
          refine go_ifq PM31 (k := 1) (p1 := 70) (p2 := 46) (L' := [some (.inr (.inr (some 35))), some (.inl p1), some (.inl l9_2), some (.inl l9_3)]) (st' := []) (w' := (SH, dt598)) rfl (c_ne (a := v_h696) (b := 1004) (by first | exact bnd h696r (by decide) (by decide) | exact ⟨by omega, by omega⟩) ⟨by decide, by decide⟩) (fun c730 => ?_) (fun c730 => ?_)
          · skip
            replace c730 := hid c730
            have j737 : ∀ (j737_d : Nat → Nat → Int) (j737_hI : InvC j737_d) (j737_hF : Fr [35, 42] dt j737_d) (i738 : j737_d 35 1 = dt 35 1), GO (am_XX L xs sio) (d + 4) 31 80 [some (.inr (.inr (some 35))), some (.inl p1), none, some (.inl l9_3)] [] (SH, j737_d) (fun r w2 => ∃ dt2 : Nat → Nat → Int, w2 = (SH, dt2) ∧ InvC dt2 ∧ Fr [35, 42] dt dt2 ∧ ((r = none ∧ (dt2 35 1 = dt 35 1)))) := by
              intro j737_d j737_hI j737_hF i738
              have r739 : (-2147483648) ≤ j737_d 35 8 ∧ j737_d 35 8 ≤ 2147483647 := InvC_get j737_hI 35 8 rfl rfl
              refine go_toq PM31 (k := 7) (pc' := 89) (L' := [some (.inr (.inr (some 35))), some (.inl p1), some (.inl 1), some (.inl l9_3)]) (st' := [.inl ((j737_d 35 8) + 1), .inr (.inr (some 35))]) (w' := (SH, j737_d)) rfl ?_
              have r740 := wr_RR ((j737_d 35 8) + 1)
              have hI741 : InvC (u2 j737_d 35 8 (wr ((j737_d 35 8) + 1))) := InvC_u2 j737_hI (lo := -2147483648) (hi := 2147483647) rfl rfl rfl (by (first | omega | (have z0_ := unhid c730; omega))) (by (first | omega | (have z0_ := unhid c730; omega)))
              have hF742 : Fr [35, 42] dt (u2 j737_d 35 8 (wr ((j737_d 35 8) + 1))) := Fr_u2 j737_hF (by decide)
              have w743 : (u2 j737_d 35 8 (wr ((j737_d 35 8) + 1))) 35 1 = j737_d 35 1 := rfl
              refine go_smpq PM31 (L' := [some (.inr (.inr (some 35))), some (.inl p1), some (.inl 1), some (.inl l9_3)]) (st' := []) (w' := (SH, (u2 j737_d 35 8 (wr ((j737_d 35 8) + 1))))) rfl rfl (s_pfw rfl rfl rfl rfl) ?_
              refine go_toq PM31 (k := 2) (pc' := 94) (L' := [some (.inr (.inr (some 35))), some (.inl p1), some (.inl 1), some (.inl l9_3)]) (st' := [.inl p1, .inr (.inr (some 35))]) (w' := (SH, (u2 j737_d 35 8 (wr ((j737_d 35 8) + 1))))) rfl ?_
              refine go_callq PM31 PM32 (Q' := _) rfl rfl rfl rfl (IH_X1_single L xs sio (d + 0) (u2 j737_d 35 8 (wr ((j737_d 35 8) + 1))) hI741  p1 (by first | exact h_p1 | exact bnd h_p1 (by decide) (by decide) | exact ⟨by (first | omega | (have z0_ := unhid c730; omega)), by (first | omega | (have z0_ := unhid c730; omega))⟩) (by first | exact True.intro | with_reducible assumption | exact unhid (by with_reducible assumption) | rfl | (first | omega | (have z0_ := unhid c730; omega)) | trivial) (by first | exact True.intro | with_reducible assumption | exact unhid (by with_reducible assumption) | rfl | (first | omega | (have z0_ := unhid c730; omega)) | trivial)) ?_
              rintro _ _ ⟨dt745, rfl, hI746, hF747, h744⟩
              refine ⟨rfl, ?_⟩
              have hF748 : Fr [35, 42] dt dt745 := Fr_tr hF742 hF747 (by decide)
              rcases h744 with ⟨rfl, h744⟩
              refine go_toq PM31 (k := 2) (pc' := 9) (L' := [some (.inr (.inr (some 35))), some (.inl p1), some (.inl 1), some (.inl (l9_3 + 1))]) (st' := []) (w' := (SH, dt745)) rfl ?_
              exact GO.le (ih_loop604 1 (l9_3 + 1) dt745 hI746 hF748 ⟨by decide, by decide⟩ (by first | exact bndp i602 (by decide) (by decide) | (first | omega | (have z0_ := unhid c730; omega))) (by (first | omega | (have z0_ := unhid c730; omega))) (by (first | omega | (have z0_ := unhid c730; omega)))) ⟨.inl rfl, .inl rfl, .inl rfl, .inl rfl, trivial⟩
            refine go_ifq PM31 (k := 1) (p1 := 80) (p2 := 74) (L' := [some (.inr (.inr (some 35))), some (.inl p1), some (.inl l9_2), some (.inl l9_3)]) (st' := []) (w' := (SH, dt598)) rfl (z_eq (a := l9_2) (by first | exact bnd i601 (by decide) (by decide) | exact ⟨by (first | omega | (have z0_ := unhid c730; omega)), by (first | omega | (have z0_ := unhid c730; omega))⟩)) (fun c749 => ?_) (fun c749 => ?_)
            · skip
              exact GO.le (j737 dt598 hI599 hF600 (by (first | omega | (have z0_ := unhid c730; omega)))) ⟨.inl rfl, .inl rfl, .inr ⟨rfl, trivial⟩, .inl rfl, trivial⟩
            · skip
              replace c749 := hid c749
              refine go_toq PM31 (k := 2) (pc' := 77) (L' := [some (.inr (.inr (some 35))), some (.inl p1), some (.inl l9_2), some (.inl l9_3)]) (st' := [.inl (-10), .inr (.inr (some 35))]) (w' := (SH, dt598)) rfl ?_
              refine go_callq PM31 PM30 (Q' := _) rfl rfl rfl rfl (sp_X1_emit L xs sio (d + 3) dt598 hI599  (-10) ⟨by decide, by decide⟩ ) ?_
              rintro _ _ ⟨dt751, rfl, hI752, hF753, h750⟩
              refine ⟨rfl, ?_⟩
              have hF754 : Fr [35, 42] dt dt751 := Fr_tr hF600 hF753 (by decide)
              rcases h750 with ⟨rfl, h750⟩
              exact GO.le (j737 dt751 hI752 hF754 (by (first | omega | (have z0_ := unhid c730; have z1_ := unhid c749; omega)))) ⟨.inl rfl, .inl rfl, .inr ⟨rfl, trivial⟩, .inl rfl, trivial⟩
          · skip
            have r755 : (-2147483648) ≤ dt598 35 8 ∧ dt598 35 8 ≤ 2147483647 := InvC_get hI599 35 8 rfl rfl
            refine go_toq PM31 (k := 5) (pc' := 53) (L' := [some (.inr (.inr (some 35))), some (.inl p1), some (.inl l9_2), some (.inl l9_3)]) (st' := [.inl ((dt598 35 8) + 1), .inr (.inr (some 35))]) (w' := (SH, dt598)) rfl ?_
            have r756 := wr_RR ((dt598 35 8) + 1)
            have hI757 : InvC (u2 dt598 35 8 (wr ((dt598 35 8) + 1))) := InvC_u2 hI599 (lo := -2147483648) (hi := 2147483647) rfl rfl rfl (by omega) (by omega)
            have hF758 : Fr [35, 42] dt (u2 dt598 35 8 (wr ((dt598 35 8) + 1))) := Fr_u2 hF600 (by decide)
            have w759 : (u2 dt598 35 8 (wr ((dt598 35 8) + 1))) 35 1 = dt598 35 1 := rfl
            refine go_smpq PM31 (L' := [some (.inr (.inr (some 35))), some (.inl p1), some (.inl l9_2), some (.inl l9_3)]) (st' := []) (w' := (SH, (u2 dt598 35 8 (wr ((dt598 35 8) + 1))))) rfl rfl (s_pfw rfl rfl rfl rfl) ?_
            refine go_toq PM31 (k := 2) (pc' := 58) (L' := [some (.inr (.inr (some 35))), some (.inl p1), some (.inl l9_2), some (.inl l9_3)]) (st' := [.inl p1, .inr (.inr (some 35))]) (w' := (SH, (u2 dt598 35 8 (wr ((dt598 35 8) + 1))))) rfl ?_
            refine go_callq PM31 PM32 (Q' := _) rfl rfl rfl rfl (IH_X1_single L xs sio (d + 0) (u2 dt598 35 8 (wr ((dt598 35 8) + 1))) hI757  p1 (by first | exact h_p1 | exact bnd h_p1 (by decide) (by decide) | exact ⟨by omega, by omega⟩) (by first | exact True.intro | with_reducible assumption | rfl | omega | trivial) (by first | exact True.intro | with_reducible assumption | rfl | omega | trivial)) ?_
            rintro _ _ ⟨dt761, rfl, hI762, hF763, h760⟩
            refine ⟨rfl, ?_⟩
            have hF764 : Fr [35, 42] dt dt761 := Fr_tr hF758 hF763 (by decide)
            rcases h760 with ⟨rfl, h760⟩
            refine go_toq PM31 (k := 2) (pc' := 64) (L' := [some (.inr (.inr (some 35))), some (.inl p1), some (.inl l9_2), some (.inl l9_3)]) (st' := [.inl (-9), .inr (.inr (some 35))]) (w' := (SH, dt761)) rfl ?_
            refine go_callq PM31 PM30 (Q' := _) rfl rfl rfl rfl (sp_X1_emit L xs sio (d + 3) dt761 hI762  (-9) ⟨by decide, by decide⟩ ) ?_
            rintro _ _ ⟨dt766, rfl, hI767, hF768, h765⟩
            refine ⟨rfl, ?_⟩
            have hF769 : Fr [35, 42] dt dt766 := Fr_tr hF764 hF768 (by decide)
            rcases h765 with ⟨rfl, h765⟩
            refine go_toq PM31 (k := 3) (pc' := 9) (L' := [some (.inr (.inr (some 35))), some (.inl p1), some (.inl l9_2), some (.inl (l9_3 + 1))]) (st' := []) (w' := (SH, dt766)) rfl ?_
            exact GO.le (ih_loop604 l9_2 (l9_3 + 1) dt766 hI767 hF769 (by first | exact bnd i601 (by decide) (by decide) | omega) (by first | exact bndp i602 (by decide) (by decide) | omega) (by omega) (by omega)) ⟨.inl rfl, .inl rfl, .inl rfl, .inl rfl, trivial⟩
        · skip
          replace c695 := hid c695
          refine go_toq PM31 (k := 1) (pc' := 27) (L' := [some (.inr (.inr (some 35))), some (.inl p1), some (.inl l9_2), some (.inl l9_3)]) (st' := [.inr (.inr (some 35))]) (w' := (SH, dt598)) rfl ?_
          refine go_callq PM31 PM20 (Q' := _) rfl rfl rfl rfl (sp_X1_token L xs sio (d + 3) dt598 hI599   ) ?_
          rintro _ _ ⟨rfl, h770⟩
          refine ⟨rfl, ?_⟩
          rcases h770 with ⟨v_h770, rfl, h770r, h770⟩
          refine go_ifq PM31 (k := 1) (p1 := 103) (p2 := 36) (L' := [some (.inr (.inr (some 35))), some (.inl p1), some (.inl l9_2), some (.inl l9_3)]) (st' := []) (w' := (SH, dt598)) rfl (c_ne (a := v_h770) (b := 1003) (by first | exact bnd h770r (by decide) (by decide) | exact ⟨by (first | omega | (have z0_ := unhid c695; omega)), by (first | omega | (have z0_ := unhid c695; omega))⟩) ⟨by decide, by decide⟩) (fun c771 => ?_) (fun c771 => ?_)
          · skip
            replace c771 := hid c771
            exact GO.le (j678 ) ⟨.inl rfl, .inr ⟨rfl, trivial⟩, .inl rfl, .inr ⟨rfl, trivial⟩, trivial⟩
          · skip
            refine go_toq PM31 (k := 1) (pc' := 37) (L' := [some (.inr (.inr (some 35))), some (.inl p1), some (.inl l9_2), some (.inl l9_3)]) (st' := [.inr (.inr (some 35))]) (w' := (SH, dt598)) rfl ?_
            refine go_callq PM31 PM20 (Q' := _) rfl rfl rfl rfl (sp_X1_token L xs sio (d + 3) dt598 hI599   ) ?_
            rintro _ _ ⟨rfl, h772⟩
            refine ⟨rfl, ?_⟩
            rcases h772 with ⟨v_h772, rfl, h772r, h772⟩
            refine go_ifq PM31 (k := 1) (p1 := 70) (p2 := 46) (L' := [some (.inr (.inr (some 35))), some (.inl p1), some (.inl l9_2), some (.inl l9_3)]) (st' := []) (w' := (SH, dt598)) rfl (c_ne (a := v_h772) (b := 1004) (by first | exact bnd h772r (by decide) (by decide) | exact ⟨by (first | omega | (have z0_ := unhid c695; omega)), by (first | omega | (have z0_ := unhid c695; omega))⟩) ⟨by decide, by decide⟩) (fun c806 => ?_) (fun c806 => ?_)
            · skip
              replace c806 := hid c806
              have j813 : ∀ (j813_d : Nat → Nat → Int) (j813_hI : InvC j813_d) (j813_hF : Fr [35, 42] dt j813_d) (i814 : j813_d 35 1 = dt 35 1), GO (am_XX L xs sio) (d + 4) 31 80 [some (.inr (.inr (some 35))), some (.inl p1), none, some (.inl l9_3)] [] (SH, j813_d) (fun r w2 => ∃ dt2 : Nat → Nat → Int, w2 = (SH, dt2) ∧ InvC dt2 ∧ Fr [35, 42] dt dt2 ∧ ((r = none ∧ (dt2 35 1 = dt 35 1)))) := by
                intro j813_d j813_hI j813_hF i814
                have r815 : (-2147483648) ≤ j813_d 35 8 ∧ j813_d 35 8 ≤ 2147483647 := InvC_get j813_hI 35 8 rfl rfl
                refine go_toq PM31 (k := 7) (pc' := 89) (L' := [some (.inr (.inr (some 35))), some (.inl p1), some (.inl 1), some (.inl l9_3)]) (st' := [.inl ((j813_d 35 8) + 1), .inr (.inr (some 35))]) (w' := (SH, j813_d)) rfl ?_
                have r816 := wr_RR ((j813_d 35 8) + 1)
                have hI817 : InvC (u2 j813_d 35 8 (wr ((j813_d 35 8) + 1))) := InvC_u2 j813_hI (lo := -2147483648) (hi := 2147483647) rfl rfl rfl (by (first | omega | (have z0_ := unhid c695; have z1_ := unhid c806; omega))) (by (first | omega | (have z0_ := unhid c695; have z1_ := unhid c806; omega)))
                have hF818 : Fr [35, 42] dt (u2 j813_d 35 8 (wr ((j813_d 35 8) + 1))) := Fr_u2 j813_hF (by decide)
                have w819 : (u2 j813_d 35 8 (wr ((j813_d 35 8) + 1))) 35 1 = j813_d 35 1 := rfl
                refine go_smpq PM31 (L' := [some (.inr (.inr (some 35))), some (.inl p1), some (.inl 1), some (.inl l9_3)]) (st' := []) (w' := (SH, (u2 j813_d 35 8 (wr ((j813_d 35 8) + 1))))) rfl rfl (s_pfw rfl rfl rfl rfl) ?_
                refine go_toq PM31 (k := 2) (pc' := 94) (L' := [some (.inr (.inr (some 35))), some (.inl p1), some (.inl 1), some (.inl l9_3)]) (st' := [.inl p1, .inr (.inr (some 35))]) (w' := (SH, (u2 j813_d 35 8 (wr ((j813_d 35 8) + 1))))) rfl ?_
                refine go_callq PM31 PM32 (Q' := _) rfl rfl rfl rfl (IH_X1_single L xs sio (d + 0) (u2 j813_d 35 8 (wr ((j813_d 35 8) + 1))) hI817  p1 (by first | exact h_p1 | exact bnd h_p1 (by decide) (by decide) | exact ⟨by (first | omega | (have z0_ := unhid c695; have z1_ := unhid c806; omega)), by (first | omega | (have z0_ := unhid c695; have z1_ := unhid c806; omega))⟩) (by first | exact True.intro | with_reducible assumption | exact unhid (by with_reducible assumption) | rfl | (first | omega | (have z0_ := unhid c695; have z1_ := unhid c806; omega)) | trivial) (by first | exact True.intro | with_reducible assumption | exact unhid (by with_reducible assumption) | rfl | (first | omega | (have z0_ := unhid c695; have z1_ := unhid c806; omega)) | trivial)) ?_
                rintro _ _ ⟨dt821, rfl, hI822, hF823, h820⟩
                refine ⟨rfl, ?_⟩
                have hF824 : Fr [35, 42] dt dt821 := Fr_tr hF818 hF823 (by decide)
                rcases h820 with ⟨rfl, h820⟩
                refine go_toq PM31 (k := 2) (pc' := 9) (L' := [some (.inr (.inr (some 35))), some (.inl p1), some (.inl 1), some (.inl (l9_3 + 1))]) (st' := []) (w' := (SH, dt821)) rfl ?_
                exact GO.le (ih_loop604 1 (l9_3 + 1) dt821 hI822 hF824 ⟨by decide, by decide⟩ (by first | exact bndp i602 (by decide) (by decide) | (first | omega | (have z0_ := unhid c695; have z1_ := unhid c806; omega))) (by (first | omega | (have z0_ := unhid c695; have z1_ := unhid c806; omega))) (by (first | omega | (have z0_ := unhid c695; have z1_ := unhid c806; omega)))) ⟨.inl rfl, .inl rfl, .inl rfl, .inl rfl, trivial⟩
              refine go_ifq PM31 (k := 1) (p1 := 80) (p2 := 74) (L' := [some (.inr (.inr (some 35))), some (.inl p1), some (.inl l9_2), some (.inl l9_3)]) (st' := []) (w' := (SH, dt598)) rfl (z_eq (a := l9_2) (by first | exact bnd i601 (by decide) (by decide) | exact ⟨by (first | omega | (have z0_ := unhid c695; have z1_ := unhid c806; omega)), by (first | omega | (have z0_ := unhid c695; have z1_ := unhid c806; omega))⟩)) (fun c825 => ?_) (fun c825 => ?_)
              · skip
                exact GO.le (j813 dt598 hI599 hF600 (by (first | omega | (have z0_ := unhid c695; have z1_ := unhid c806; omega)))) ⟨.inl rfl, .inl rfl, .inr ⟨rfl, trivial⟩, .inl rfl, trivial⟩
              · skip
                replace c825 := hid c825
                refine go_toq PM31 (k := 2) (pc' := 77) (L' := [some (.inr (.inr (some 35))), some (.inl p1), some (.inl l9_2), some (.inl l9_3)]) (st' := [.inl (-10), .inr (.inr (some 35))]) (w' := (SH, dt598)) rfl ?_
                refine go_callq PM31 PM30 (Q' := _) rfl rfl rfl rfl (sp_X1_emit L xs sio (d + 3) dt598 hI599  (-10) ⟨by decide, by decide⟩ ) ?_
                rintro _ _ ⟨dt827, rfl, hI828, hF829, h826⟩
                refine ⟨rfl, ?_⟩
                have hF830 : Fr [35, 42] dt dt827 := Fr_tr hF600 hF829 (by decide)
                rcases h826 with ⟨rfl, h826⟩
                exact GO.le (j813 dt827 hI828 hF830 (by (first | omega | (have z0_ := unhid c695; have z1_ := unhid c806; have z2_ := unhid c825; omega)))) ⟨.inl rfl, .inl rfl, .inr ⟨rfl, trivial⟩, .inl rfl, trivial⟩
            · skip
              have r831 : (-2147483648) ≤ dt598 35 8 ∧ dt598 35 8 ≤ 2147483647 := InvC_get hI599 35 8 rfl rfl
              refine go_toq PM31 (k := 5) (pc' := 53) (L' := [some (.inr (.inr (some 35))), some (.inl p1), some (.inl l9_2), some (.inl l9_3)]) (st' := [.inl ((dt598 35 8) + 1), .inr (.inr (some 35))]) (w' := (SH, dt598)) rfl ?_
              have r832 := wr_RR ((dt598 35 8) + 1)
              have hI833 : InvC (u2 dt598 35 8 (wr ((dt598 35 8) + 1))) := InvC_u2 hI599 (lo := -2147483648) (hi := 2147483647) rfl rfl rfl (by (first | omega | (have z0_ := unhid c695; omega))) (by (first | omega | (have z0_ := unhid c695; omega)))
              have hF834 : Fr [35, 42] dt (u2 dt598 35 8 (wr ((dt598 35 8) + 1))) := Fr_u2 hF600 (by decide)
              have w835 : (u2 dt598 35 8 (wr ((dt598 35 8) + 1))) 35 1 = dt598 35 1 := rfl
              refine go_smpq PM31 (L' := [some (.inr (.inr (some 35))), some (.inl p1), some (.inl l9_2), some (.inl l9_3)]) (st' := []) (w' := (SH, (u2 dt598 35 8 (wr ((dt598 35 8) + 1))))) rfl rfl (s_pfw rfl rfl rfl rfl) ?_
              refine go_toq PM31 (k := 2) (pc' := 58) (L' := [some (.inr (.inr (some 35))), some (.inl p1), some (.inl l9_2), some (.inl l9_3)]) (st' := [.inl p1, .inr (.inr (some 35))]) (w' := (SH, (u2 dt598 35 8 (wr ((dt598 35 8) + 1))))) rfl ?_
              refine go_callq PM31 PM32 (Q' := _) rfl rfl rfl rfl (IH_X1_single L xs sio (d + 0) (u2 dt598 35 8 (wr ((dt598 35 8) + 1))) hI833  p1 (by first | exact h_p1 | exact bnd h_p1 (by decide) (by decide) | exact ⟨by (first | omega | (have z0_ := unhid c695; omega)), by (first | omega | (have z0_ := unhid c695; omega))⟩) (by first | exact True.intro | with_reducible assumption | exact unhid (by with_reducible assumption) | rfl | (first | omega | (have z0_ := unhid c695; omega)) | trivial) (by first | exact True.intro | with_reducible assumption | exact unhid (by with_reducible assumption) | rfl | (first | omega | (have z0_ := unhid c695; omega)) | trivial)) ?_
              rintro _ _ ⟨dt837, rfl, hI838, hF839, h836⟩
              refine ⟨rfl, ?_⟩
              have hF840 : Fr [35, 42] dt dt837 := Fr_tr hF834 hF839 (by decide)
              rcases h836 with ⟨rfl, h836⟩
              refine go_toq PM31 (k := 2) (pc' := 64) (L' := [some (.inr (.inr (some 35))), some (.inl p1), some (.inl l9_2), some (.inl l9_3)]) (st' := [.inl (-9), .inr (.inr (some 35))]) (w' := (SH, dt837)) rfl ?_
              refine go_callq PM31 PM30 (Q' := _) rfl rfl rfl rfl (sp_X1_emit L xs sio (d + 3) dt837 hI838  (-9) ⟨by decide, by decide⟩ ) ?_
              rintro _ _ ⟨dt842, rfl, hI843, hF844, h841⟩
              refine ⟨rfl, ?_⟩
              have hF845 : Fr [35, 42] dt dt842 := Fr_tr hF840 hF844 (by decide)
              rcases h841 with ⟨rfl, h841⟩
              refine go_toq PM31 (k := 3) (pc' := 9) (L' := [some (.inr (.inr (some 35))), some (.inl p1), some (.inl l9_2), some (.inl (l9_3 + 1))]) (st' := []) (w' := (SH, dt842)) rfl ?_
              exact GO.le (ih_loop604 l9_2 (l9_3 + 1) dt842 hI843 hF845 (by first | exact bnd i601 (by decide) (by decide) | (first | omega | (have z0_ := unhid c695; omega))) (by first | exact bndp i602 (by decide) (by decide) | (first | omega | (have z0_ := unhid c695; omega))) (by (first | omega | (have z0_ := unhid c695; omega))) (by (first | omega | (have z0_ := unhid c695; omega)))) ⟨.inl rfl, .inl rfl, .inl rfl, .inl rfl, trivial⟩
  exact GO.le (loop604 _ 0 0 dt2 hI3 hF5 ⟨by decide, by decide⟩ ⟨by decide, by decide⟩ (by omega) (Nat.lt_succ_self _)) ⟨.inl rfl, .inl rfl, .inl rfl, .inl rfl, trivial⟩
theorem lv_X1_single (L : Nat) (xs : Nat → Int32) (sio : Option Nat) (d : Nat) (dt : Nat → Nat → Int) (hI : InvC dt) (j : Nat) (IH_X1_single : ∀ (L : Nat) (xs : Nat → Int32) (sio : Option Nat) (d : Nat) (dt : Nat → Nat → Int) (hI : InvC dt) (p1 : Int) (h_p1 : 0 ≤ p1 ∧ p1 ≤ 8) (h_p0 : p1 + ((j : Nat) : Int) = 8) (h_p1 : 2 * j ≤ d), GO (am_XX L xs sio) (d + 3) 32 0 [some (.inr (.inr (some 35))), some (.inl p1), none, none] [] (SH, dt) (fun r w2 => ∃ dt2 : Nat → Nat → Int, w2 = (SH, dt2) ∧ InvC dt2 ∧ Fr [35, 42] dt dt2 ∧ ((r = none ∧ (dt2 35 1 = dt 35 1))))) (IH_X1_condition : ∀ (L : Nat) (xs : Nat → Int32) (sio : Option Nat) (d : Nat) (dt : Nat → Nat → Int) (hI : InvC dt) (p1 : Int) (h_p1 : 0 ≤ p1 ∧ p1 ≤ 8) (h_p0 : p1 + ((j : Nat) : Int) = 8) (h_p1 : 2 * j ≤ d), GO (am_XX L xs sio) (d + 4) 31 0 [some (.inr (.inr (some 35))), some (.inl p1), none, none] [] (SH, dt) (fun r w2 => ∃ dt2 : Nat → Nat → Int, w2 = (SH, dt2) ∧ InvC dt2 ∧ Fr [35, 42] dt dt2 ∧ ((r = none ∧ (dt2 35 1 = dt 35 1)))))  (p1 : Int) (h_p1 : 0 ≤ p1 ∧ p1 ≤ 8) (h_p0 : p1 + (((j + 1) : Nat) : Int) = 8) (h_p1 : 2 * j ≤ d) : GO (am_XX L xs sio) (d + 5) 32 0 [some (.inr (.inr (some 35))), some (.inl p1), none, none] [] (SH, dt) (fun r w2 => ∃ dt2 : Nat → Nat → Int, w2 = (SH, dt2) ∧ InvC dt2 ∧ Fr [35, 42] dt dt2 ∧ ((r = none ∧ (dt2 35 1 = dt 35 1)))) := by
  have hF : Fr [35, 42] dt dt := Fr_refl
  refine go_toq PM32 (k := 1) (pc' := 1) (L' := [some (.inr (.inr (some 35))), some (.inl p1), none, none]) (st' := [.inr (.inr (some 35))]) (w' := (SH, dt)) rfl ?_
  refine go_callq PM32 PM20 (Q' := _) rfl rfl rfl rfl (sp_X1_token L xs sio (d + 4) dt hI   ) ?_
  rintro _ _ ⟨rfl, h1⟩
  refine ⟨rfl, ?_⟩
  rcases h1 with ⟨v_h1, rfl, h1r, h1⟩
  refine go_ifq PM32 (k := 1) (p1 := 14) (p2 := 10) (L' := [some (.inr (.inr (some 35))), some (.inl p1), none, none]) (st' := []) (w' := (SH, dt)) rfl (c_ne (a := v_h1) (b := 1005) (by first | exact bnd h1r (by decide) (by decide) | exact ⟨by omega, by omega⟩) ⟨by decide, by decide⟩) (fun c3 => ?_) (fun c3 => ?_)
  · skip
    replace c3 := hid c3
    refine go_toq PM32 (k := 5) (pc' := 21) (L' := [some (.inr (.inr (some 35))), some (.inl p1), some (.inl 0), none]) (st' := [.inr (.inr (some 35))]) (w' := (SH, dt)) rfl ?_
    refine go_callq PM32 PM20 (Q' := _) rfl rfl rfl rfl (sp_X1_token L xs sio (d + 4) dt hI   ) ?_
    rintro _ _ ⟨rfl, h4⟩
    refine ⟨rfl, ?_⟩
    rcases h4 with ⟨v_h4, rfl, h4r, h4⟩
    refine go_ifq PM32 (k := 1) (p1 := 107) (p2 := 29) (L' := [some (.inr (.inr (some 35))), some (.inl p1), some (.inl 0), none]) (st' := []) (w' := (SH, dt)) rfl (c_eq (a := v_h4) (b := 40) (by first | exact bnd h4r (by decide) (by decide) | exact ⟨by (first | omega | (have z0_ := unhid c3; omega)), by (first | omega | (have z0_ := unhid c3; omega))⟩) ⟨by decide, by decide⟩) (fun c5 => ?_) (fun c5 => ?_)
    · skip
      have j27 : ∀ (j27_d : Nat → Nat → Int) (j27_hI : InvC j27_d) (j27_hF : Fr [35, 42] dt j27_d) (i28 : j27_d 35 1 = dt 35 1), GO (am_XX L xs sio) (d + 5) 32 174 [some (.inr (.inr (some 35))), none, none, none] [] (SH, j27_d) (fun r w2 => ∃ dt2 : Nat → Nat → Int, w2 = (SH, dt2) ∧ InvC dt2 ∧ Fr [35, 42] dt dt2 ∧ ((r = none ∧ (dt2 35 1 = dt 35 1)))) := by
        intro j27_d j27_hI j27_hF i28
        refine go_retq PM32 (k := 0) (r := none) (w1 := (SH, j27_d)) rfl ?_
        exact ⟨j27_d, rfl, j27_hI, j27_hF, ⟨rfl, by first | exact True.intro | with_reducible assumption | exact unhid (by with_reducible assumption) | rfl | (first | omega | (have z0_ := unhid c3; omega)) | trivial⟩⟩
      refine go_ifq PM32 (k := 2) (p1 := 121) (p2 := 113) (L' := [some (.inr (.inr (some 35))), some (.inl p1), some (.inl 0), none]) (st' := []) (w' := (SH, dt)) rfl (c_lt (a := p1) (b := 8) (by first | exact bnd h_p1 (by decide) (by decide) | exact ⟨by (first | omega | (have z0_ := unhid c3; omega)), by (first | omega | (have z0_ := unhid c3; omega))⟩) ⟨by decide, by decide⟩) (fun c29 => ?_) (fun c29 => ?_)
      · skip
        have r30 : (-2147483648) ≤ dt 35 8 ∧ dt 35 8 ≤ 2147483647 := InvC_get hI 35 8 rfl rfl
        refine go_toq PM32 (k := 7) (pc' := 158) (L' := [some (.inr (.inr (some 35))), some (.inl p1), some (.inl 0), none]) (st' := [.inl ((dt 35 8) + 1), .inr (.inr (some 35))]) (w' := (SH, dt)) rfl ?_
        have r31 := wr_RR ((dt 35 8) + 1)
        have hI32 : InvC (u2 dt 35 8 (wr ((dt 35 8) + 1))) := InvC_u2 hI (lo := -2147483648) (hi := 2147483647) rfl rfl rfl (by (first | omega | (have z0_ := unhid c3; omega))) (by (first | omega | (have z0_ := unhid c3; omega)))
        have hF33 : Fr [35, 42] dt (u2 dt 35 8 (wr ((dt 35 8) + 1))) := Fr_u2 hF (by decide)
        have w34 : (u2 dt 35 8 (wr ((dt 35 8) + 1))) 35 1 = dt 35 1 := rfl
        refine go_smpq PM32 (L' := [some (.inr (.inr (some 35))), some (.inl p1), some (.inl 0), none]) (st' := []) (w' := (SH, (u2 dt 35 8 (wr ((dt 35 8) + 1))))) rfl rfl (s_pfw rfl rfl rfl rfl) ?_
        refine go_toq PM32 (k := 4) (pc' := 165) (L' := [some (.inr (.inr (some 35))), some (.inl p1), some (.inl 0), none]) (st' := [.inl (p1 + 1), .inr (.inr (some 35))]) (w' := (SH, (u2 dt 35 8 (wr ((dt 35 8) + 1))))) rfl ?_
        refine go_callq PM32 PM31 (Q' := _) rfl rfl rfl rfl (IH_X1_condition L xs sio (d + 0) (u2 dt 35 8 (wr ((dt 35 8) + 1))) hI32  (p1 + 1) (by first | exact bndp h_p1 (by decide) (by decide) | exact ⟨by (first | omega | (have z0_ := unhid c3; omega)), by (first | omega | (have z0_ := unhid c3; omega))⟩) (by first | exact True.intro | with_reducible assumption | exact unhid (by with_reducible assumption) | rfl | (first | omega | (have z0_ := unhid c3; omega)) | trivial) (by first | exact True.intro | with_reducible assumption | exact unhid (by with_reducible assumption) | rfl | (first | omega | (have z0_ := unhid c3; omega)) | trivial)) ?_
        rintro _ _ ⟨dt36, rfl, hI37, hF38, h35⟩
        refine ⟨rfl, ?_⟩
        have hF39 : Fr [35, 42] dt dt36 := Fr_tr hF33 hF38 (by decide)
        rcases h35 with ⟨rfl, h35⟩
        refine go_toq PM32 (k := 2) (pc' := 171) (L' := [some (.inr (.inr (some 35))), some (.inl p1), some (.inl 0), none]) (st' := [.inl 41, .inr (.inr (some 35))]) (w' := (SH, dt36)) rfl ?_
        refine go_callq PM32 PM22 (Q' := _) rfl rfl rfl rfl (sp_X1_skip L xs sio (d + 3) dt36 hI37  41 ⟨by decide, by decide⟩ ) ?_
        rintro _ _ ⟨dt41, rfl, hI42, hF43, h40⟩
        refine ⟨rfl, ?_⟩
        have hF44 : Fr [35, 42] dt dt41 := Fr_tr hF39 hF43 (by decide)
        rcases h40 with ⟨rfl, h40⟩
        exact GO.le (j27 dt41 hI42 hF44 (by (first | omega | (have z0_ := unhid c3; omega)))) ⟨.inl rfl, .inr ⟨rfl, trivial⟩, .inr ⟨rfl, trivial⟩, .inl rfl, trivial⟩
      · skip
        refine go_toq PM32 (k := 2) (pc' := 115) (L' := [some (.inr (.inr (some 35))), some (.inl p1), some (.inl 0), none]) (st' := [.inl 3, .inr (.inr (some 35))]) (w' := (SH, dt)) rfl ?_
        refine go_callq PM32 PM21 (Q' := _) rfl rfl rfl rfl (sp_X1_fail L xs sio (d + 4) dt hI  3 ⟨by decide, by decide⟩ ) ?_
        rintro _ _ ⟨dt46, rfl, hI47, hF48, h45⟩
        refine ⟨rfl, ?_⟩
        have hF49 : Fr [35, 42] dt dt46 := Fr_tr hF hF48 (by decide)
        rcases h45 with ⟨rfl, h45⟩
        refine go_toq PM32 (k := 1) (pc' := 174) (L' := [some (.inr (.inr (some 35))), some (.inl p1), some (.inl 0), none]) (st' := []) (w' := (SH, dt46)) rfl ?_
        exact GO.le (j27 dt46 hI47 hF49 (by (first | omega | (have z0_ := unhid c3; omega)))) ⟨.inl rfl, .inr ⟨rfl, trivial⟩, .inr ⟨rfl, trivial⟩, .inl rfl, trivial⟩
    · skip
      replace c5 := hid c5
      refine go_toq PM32 (k := 1) (pc' := 30) (L' := [some (.inr (.inr (some 35))), some (.inl p1), some (.inl 0), none]) (st' := [.inr (.inr (some 35))]) (w' := (SH, dt)) rfl ?_
      refine go_callq PM32 PM33 (Q' := _) rfl rfl rfl rfl (sp_X1_sum L xs sio (d + 2) dt hI   ) ?_
      rintro _ _ ⟨dt51, rfl, hI52, hF53, h50⟩
      refine ⟨rfl, ?_⟩
      have hF54 : Fr [35, 42] dt dt51 := Fr_tr hF hF53 (by decide)
      rcases h50 with ⟨rfl, h50⟩
      refine go_toq PM32 (k := 1) (pc' := 34) (L' := [some (.inr (.inr (some 35))), some (.inl p1), some (.inl 0), none]) (st' := [.inr (.inr (some 35))]) (w' := (SH, dt51)) rfl ?_
      refine go_callq PM32 PM20 (Q' := _) rfl rfl rfl rfl (sp_X1_token L xs sio (d + 4) dt51 hI52   ) ?_
      rintro _ _ ⟨rfl, h55⟩
      refine ⟨rfl, ?_⟩
      rcases h55 with ⟨v_h55, rfl, h55r, h55⟩
      refine go_ifq PM32 (k := 3) (p1 := 62) (p2 := 44) (L' := [some (.inr (.inr (some 35))), some (.inl p1), some (.inl 0), some (.inl v_h55)]) (st' := []) (w' := (SH, dt51)) rfl (c_eq (a := v_h55) (b := 60) (by first | exact bnd h55r (by decide) (by decide) | exact ⟨by (first | omega | (have z0_ := unhid c3; have z1_ := unhid c5; omega)), by (first | omega | (have z0_ := unhid c3; have z1_ := unhid c5; omega))⟩) ⟨by decide, by decide⟩) (fun c56 => ?_) (fun c56 => ?_)
      · skip
        have r57 : (-2147483648) ≤ dt51 35 8 ∧ dt51 35 8 ≤ 2147483647 := InvC_get hI52 35 8 rfl rfl
        refine go_toq PM32 (k := 5) (pc' := 69) (L' := [some (.inr (.inr (some 35))), some (.inl p1), some (.inl 0), some (.inl v_h55)]) (st' := [.inl ((dt51 35 8) + 1), .inr (.inr (some 35))]) (w' := (SH, dt51)) rfl ?_
        have r58 := wr_RR ((dt51 35 8) + 1)
        have hI59 : InvC (u2 dt51 35 8 (wr ((dt51 35 8) + 1))) := InvC_u2 hI52 (lo := -2147483648) (hi := 2147483647) rfl rfl rfl (by (first | omega | (have z0_ := unhid c3; have z1_ := unhid c5; omega))) (by (first | omega | (have z0_ := unhid c3; have z1_ := unhid c5; omega)))
        have hF60 : Fr [35, 42] dt (u2 dt51 35 8 (wr ((dt51 35 8) + 1))) := Fr_u2 hF54 (by decide)
        have w61 : (u2 dt51 35 8 (wr ((dt51 35 8) + 1))) 35 1 = dt51 35 1 := rfl
        refine go_smpq PM32 (L' := [some (.inr (.inr (some 35))), some (.inl p1), some (.inl 0), some (.inl v_h55)]) (st' := []) (w' := (SH, (u2 dt51 35 8 (wr ((dt51 35 8) + 1))))) rfl rfl (s_pfw rfl rfl rfl rfl) ?_
        refine go_toq PM32 (k := 1) (pc' := 73) (L' := [some (.inr (.inr (some 35))), some (.inl p1), some (.inl 0), some (.inl v_h55)]) (st' := [.inr (.inr (some 35))]) (w' := (SH, (u2 dt51 35 8 (wr ((dt51 35 8) + 1))))) rfl ?_
        refine go_callq PM32 PM33 (Q' := _) rfl rfl rfl rfl (sp_X1_sum L xs sio (d + 2) (u2 dt51 35 8 (wr ((dt51 35 8) + 1))) hI59   ) ?_
        rintro _ _ ⟨dt63, rfl, hI64, hF65, h62⟩
        refine ⟨rfl, ?_⟩
        have hF66 : Fr [35, 42] dt dt63 := Fr_tr hF60 hF65 (by decide)
        rcases h62 with ⟨rfl, h62⟩
        refine go_ifq PM32 (k := 3) (p1 := 88) (p2 := 83) (L' := [some (.inr (.inr (some 35))), some (.inl p1), some (.inl 0), some (.inl v_h55)]) (st' := [.inr (.inr (some 35))]) (w' := (SH, dt63)) rfl (c_ne (a := v_h55) (b := 60) (by first | exact bnd h55r (by decide) (by decide) | exact ⟨by (first | omega | (have z0_ := unhid c3; have z1_ := unhid c5; omega)), by (first | omega | (have z0_ := unhid c3; have z1_ := unhid c5; omega))⟩) ⟨by decide, by decide⟩) (fun c69 => ?_) (fun c69 => ?_)
        · skip
          replace c69 := hid c69
          refine go_ifq PM32 (k := 2) (p1 := 99) (p2 := 94) (L' := [some (.inr (.inr (some 35))), some (.inl p1), some (.inl 0), some (.inl v_h55)]) (st' := [.inr (.inr (some 35))]) (w' := (SH, dt63)) rfl (c_ne (a := v_h55) (b := 61) (by first | exact bnd h55r (by decide) (by decide) | exact ⟨by (first | omega | (have z0_ := unhid c3; have z1_ := unhid c5; have z2_ := unhid c69; omega)), by (first | omega | (have z0_ := unhid c3; have z1_ := unhid c5; have z2_ := unhid c69; omega))⟩) ⟨by decide, by decide⟩) (fun c71 => ?_) (fun c71 => ?_)
          · skip
            replace c71 := hid c71
            refine go_toq PM32 (k := 1) (pc' := 101) (L' := [some (.inr (.inr (some 35))), some (.inl p1), some (.inl 0), some (.inl v_h55)]) (st' := [.inl (-7), .inr (.inr (some 35))]) (w' := (SH, dt63)) rfl ?_
            refine go_callq PM32 PM30 (Q' := _) rfl rfl rfl rfl (sp_X1_emit L xs sio (d + 4) dt63 hI64  (-7) ⟨by decide, by decide⟩ ) ?_
            rintro _ _ ⟨dt73, rfl, hI74, hF75, h72⟩
            refine ⟨rfl, ?_⟩
            have hF76 : Fr [35, 42] dt dt73 := Fr_tr hF66 hF75 (by decide)
            rcases h72 with ⟨rfl, h72⟩
            refine go_retq PM32 (k := 1) (r := none) (w1 := (SH, dt73)) rfl ?_
            have u15_ := hid (And.intro (unhid c3) (And.intro (unhid c5) (And.intro (unhid c69) (unhid c71))))
            exact ⟨dt73, rfl, hI74, hF76, ⟨rfl, by first | exact True.intro | with_reducible assumption | exact unhid (by with_reducible assumption) | rfl | (first | omega | (have z_ := unhid u15_; omega)) | trivial⟩⟩
          · exfalso; (first | omega | (have z0_ := unhid c3; have z1_ := unhid c5; have z2_ := unhid c69; omega))
        · skip
          refine go_toq PM32 (k := 2) (pc' := 101) (L' := [some (.inr (.inr (some 35))), some (.inl p1), some (.inl 0), some (.inl v_h55)]) (st' := [.inl (-5), .inr (.inr (some 35))]) (w' := (SH, dt63)) rfl ?_
          refine go_callq PM32 PM30 (Q' := _) rfl rfl rfl rfl (sp_X1_emit L xs sio (d + 4) dt63 hI64  (-5) ⟨by decide, by decide⟩ ) ?_
          rintro _ _ ⟨dt78, rfl, hI79, hF80, h77⟩
          refine ⟨rfl, ?_⟩
          have hF81 : Fr [35, 42] dt dt78 := Fr_tr hF66 hF80 (by decide)
          rcases h77 with ⟨rfl, h77⟩
          refine go_retq PM32 (k := 1) (r := none) (w1 := (SH, dt78)) rfl ?_
          exact ⟨dt78, rfl, hI79, hF81, ⟨rfl, by first | exact True.intro | with_reducible assumption | exact unhid (by with_reducible assumption) | rfl | (first | omega | (have z0_ := unhid c3; have z1_ := unhid c5; omega)) | trivial⟩⟩
      · skip
        replace c56 := hid c56
        refine go_ifq PM32 (k := 2) (p1 := 62) (p2 := 50) (L' := [some (.inr (.inr (some 35))), some (.inl p1), some (.inl 0), some (.inl v_h55)]) (st' := []) (w' := (SH, dt51)) rfl (c_eq (a := v_h55) (b := 61) (by first | exact bnd h55r (by decide) (by decide) | exact ⟨by (first | omega | (have z0_ := unhid c3; have z1_ := unhid c5; have z2_ := unhid c56; omega)), by (first | omega | (have z0_ := unhid c3; have z1_ := unhid c5; have z2_ := unhid c56; omega))⟩) ⟨by decide, by decide⟩) (fun c82 => ?_) (fun c82 => ?_)
        · skip
          have r83 : (-2147483648) ≤ dt51 35 8 ∧ dt51 35 8 ≤ 2147483647 := InvC_get hI52 35 8 rfl rfl
          refine go_toq PM32 (k := 5) (pc' := 69) (L' := [some (.inr (.inr (some 35))), some (.inl p1), some (.inl 0), some (.inl v_h55)]) (st' := [.inl ((dt51 35 8) + 1), .inr (.inr (some 35))]) (w' := (SH, dt51)) rfl ?_
          have r84 := wr_RR ((dt51 35 8) + 1)
          have hI85 : InvC (u2 dt51 35 8 (wr ((dt51 35 8) + 1))) := InvC_u2 hI52 (lo := -2147483648) (hi := 2147483647) rfl rfl rfl (by (first | omega | (have z0_ := unhid c3; have z1_ := unhid c5; have z2_ := unhid c56; omega))) (by (first | omega | (have z0_ := unhid c3; have z1_ := unhid c5; have z2_ := unhid c56; omega)))
          have hF86 : Fr [35, 42] dt (u2 dt51 35 8 (wr ((dt51 35 8) + 1))) := Fr_u2 hF54 (by decide)
          have w87 : (u2 dt51 35 8 (wr ((dt51 35 8) + 1))) 35 1 = dt51 35 1 := rfl
          refine go_smpq PM32 (L' := [some (.inr (.inr (some 35))), some (.inl p1), some (.inl 0), some (.inl v_h55)]) (st' := []) (w' := (SH, (u2 dt51 35 8 (wr ((dt51 35 8) + 1))))) rfl rfl (s_pfw rfl rfl rfl rfl) ?_
          refine go_toq PM32 (k := 1) (pc' := 73) (L' := [some (.inr (.inr (some 35))), some (.inl p1), some (.inl 0), some (.inl v_h55)]) (st' := [.inr (.inr (some 35))]) (w' := (SH, (u2 dt51 35 8 (wr ((dt51 35 8) + 1))))) rfl ?_
          refine go_callq PM32 PM33 (Q' := _) rfl rfl rfl rfl (sp_X1_sum L xs sio (d + 2) (u2 dt51 35 8 (wr ((dt51 35 8) + 1))) hI85   ) ?_
          rintro _ _ ⟨dt89, rfl, hI90, hF91, h88⟩
          refine ⟨rfl, ?_⟩
          have hF92 : Fr [35, 42] dt dt89 := Fr_tr hF86 hF91 (by decide)
          rcases h88 with ⟨rfl, h88⟩
          refine go_ifq PM32 (k := 3) (p1 := 88) (p2 := 83) (L' := [some (.inr (.inr (some 35))), some (.inl p1), some (.inl 0), some (.inl v_h55)]) (st' := [.inr (.inr (some 35))]) (w' := (SH, dt89)) rfl (c_ne (a := v_h55) (b := 60) (by first | exact bnd h55r (by decide) (by decide) | exact ⟨by (first | omega | (have z0_ := unhid c3; have z1_ := unhid c5; have z2_ := unhid c56; omega)), by (first | omega | (have z0_ := unhid c3; have z1_ := unhid c5; have z2_ := unhid c56; omega))⟩) ⟨by decide, by decide⟩) (fun c95 => ?_) (fun c95 => ?_)
          · skip
            replace c95 := hid c95
            have u16_ := hid (And.intro (unhid c3) (And.intro (unhid c5) (And.intro (unhid c56) (unhid c95))))
            refine go_ifq PM32 (k := 2) (p1 := 99) (p2 := 94) (L' := [some (.inr (.inr (some 35))), some (.inl p1), some (.inl 0), some (.inl v_h55)]) (st' := [.inr (.inr (some 35))]) (w' := (SH, dt89)) rfl (c_ne (a := v_h55) (b := 61) (by first | exact bnd h55r (by decide) (by decide) | exact ⟨by (first | omega | (have z_ := unhid u16_; omega)), by (first | omega | (have z_ := unhid u16_; omega))⟩) ⟨by decide, by decide⟩) (fun c97 => ?_) (fun c97 => ?_)
            · skip
              replace c97 := hid c97
              refine go_toq PM32 (k := 1) (pc' := 101) (L' := [some (.inr (.inr (some 35))), some (.inl p1), some (.inl 0), some (.inl v_h55)]) (st' := [.inl (-7), .inr (.inr (some 35))]) (w' := (SH, dt89)) rfl ?_
              refine go_callq PM32 PM30 (Q' := _) rfl rfl rfl rfl (sp_X1_emit L xs sio (d + 4) dt89 hI90  (-7) ⟨by decide, by decide⟩ ) ?_
              rintro _ _ ⟨dt99, rfl, hI100, hF101, h98⟩
              refine ⟨rfl, ?_⟩
              have hF102 : Fr [35, 42] dt dt99 := Fr_tr hF92 hF101 (by decide)
              rcases h98 with ⟨rfl, h98⟩
              refine go_retq PM32 (k := 1) (r := none) (w1 := (SH, dt99)) rfl ?_
              have u17_ := hid (And.intro (unhid c3) (And.intro (unhid c5) (And.intro (unhid c56) (And.intro (unhid c95) (unhid c97)))))
              exact ⟨dt99, rfl, hI100, hF102, ⟨rfl, by first | exact True.intro | with_reducible assumption | exact unhid (by with_reducible assumption) | rfl | (first | omega | (have z_ := unhid u17_; omega)) | trivial⟩⟩
            · skip
              refine go_toq PM32 (k := 2) (pc' := 101) (L' := [some (.inr (.inr (some 35))), some (.inl p1), some (.inl 0), some (.inl v_h55)]) (st' := [.inl (-6), .inr (.inr (some 35))]) (w' := (SH, dt89)) rfl ?_
              refine go_callq PM32 PM30 (Q' := _) rfl rfl rfl rfl (sp_X1_emit L xs sio (d + 4) dt89 hI90  (-6) ⟨by decide, by decide⟩ ) ?_
              rintro _ _ ⟨dt104, rfl, hI105, hF106, h103⟩
              refine ⟨rfl, ?_⟩
              have hF107 : Fr [35, 42] dt dt104 := Fr_tr hF92 hF106 (by decide)
              rcases h103 with ⟨rfl, h103⟩
              refine go_retq PM32 (k := 1) (r := none) (w1 := (SH, dt104)) rfl ?_
              exact ⟨dt104, rfl, hI105, hF107, ⟨rfl, by first | exact True.intro | with_reducible assumption | exact unhid (by with_reducible assumption) | rfl | (first | omega | (have z_ := unhid u16_; omega)) | trivial⟩⟩
          · exfalso; (first | omega | (have z0_ := unhid c3; have z1_ := unhid c5; have z2_ := unhid c56; omega))
        · skip
          replace c82 := hid c82
          have u18_ := hid (And.intro (unhid c3) (And.intro (unhid c5) (And.intro (unhid c56) (unhid c82))))
          refine go_ifq PM32 (k := 2) (p1 := 62) (p2 := 56) (L' := [some (.inr (.inr (some 35))), some (.inl p1), some (.inl 0), some (.inl v_h55)]) (st' := []) (w' := (SH, dt51)) rfl (c_eq (a := v_h55) (b := 62) (by first | exact bnd h55r (by decide) (by decide) | exact ⟨by (first | omega | (have z_ := unhid u18_; omega)), by (first | omega | (have z_ := unhid u18_; omega))⟩) ⟨by decide, by decide⟩) (fun c108 => ?_) (fun c108 => ?_)
          · skip
            have r109 : (-2147483648) ≤ dt51 35 8 ∧ dt51 35 8 ≤ 2147483647 := InvC_get hI52 35 8 rfl rfl
            refine go_toq PM32 (k := 5) (pc' := 69) (L' := [some (.inr (.inr (some 35))), some (.inl p1), some (.inl 0), some (.inl v_h55)]) (st' := [.inl ((dt51 35 8) + 1), .inr (.inr (some 35))]) (w' := (SH, dt51)) rfl ?_
            have r110 := wr_RR ((dt51 35 8) + 1)
            have hI111 : InvC (u2 dt51 35 8 (wr ((dt51 35 8) + 1))) := InvC_u2 hI52 (lo := -2147483648) (hi := 2147483647) rfl rfl rfl (by (first | omega | (have z_ := unhid u18_; omega))) (by (first | omega | (have z_ := unhid u18_; omega)))
            have hF112 : Fr [35, 42] dt (u2 dt51 35 8 (wr ((dt51 35 8) + 1))) := Fr_u2 hF54 (by decide)
            have w113 : (u2 dt51 35 8 (wr ((dt51 35 8) + 1))) 35 1 = dt51 35 1 := rfl
            refine go_smpq PM32 (L' := [some (.inr (.inr (some 35))), some (.inl p1), some (.inl 0), some (.inl v_h55)]) (st' := []) (w' := (SH, (u2 dt51 35 8 (wr ((dt51 35 8) + 1))))) rfl rfl (s_pfw rfl rfl rfl rfl) ?_
            refine go_toq PM32 (k := 1) (pc' := 73) (L' := [some (.inr (.inr (some 35))), some (.inl p1), some (.inl 0), some (.inl v_h55)]) (st' := [.inr (.inr (some 35))]) (w' := (SH, (u2 dt51 35 8 (wr ((dt51 35 8) + 1))))) rfl ?_
            refine go_callq PM32 PM33 (Q' := _) rfl rfl rfl rfl (sp_X1_sum L xs sio (d + 2) (u2 dt51 35 8 (wr ((dt51 35 8) + 1))) hI111   ) ?_
            rintro _ _ ⟨dt115, rfl, hI116, hF117, h114⟩
            refine ⟨rfl, ?_⟩
            have hF118 : Fr [35, 42] dt dt115 := Fr_tr hF112 hF117 (by decide)
            rcases h114 with ⟨rfl, h114⟩
            refine go_ifq PM32 (k := 3) (p1 := 88) (p2 := 83) (L' := [some (.inr (.inr (some 35))), some (.inl p1), some (.inl 0), some (.inl v_h55)]) (st' := [.inr (.inr (some 35))]) (w' := (SH, dt115)) rfl (c_ne (a := v_h55) (b := 60) (by first | exact bnd h55r (by decide) (by decide) | exact ⟨by (first | omega | (have z_ := unhid u18_; omega)), by (first | omega | (have z_ := unhid u18_; omega))⟩) ⟨by decide, by decide⟩) (fun c121 => ?_) (fun c121 => ?_)
            · skip
              replace c121 := hid c121
              have u19_ := hid (And.intro (unhid c3) (And.intro (unhid c5) (And.intro (unhid c56) (And.intro (unhid c82) (unhid c121)))))
              refine go_ifq PM32 (k := 2) (p1 := 99) (p2 := 94) (L' := [some (.inr (.inr (some 35))), some (.inl p1), some (.inl 0), some (.inl v_h55)]) (st' := [.inr (.inr (some 35))]) (w' := (SH, dt115)) rfl (c_ne (a := v_h55) (b := 61) (by first | exact bnd h55r (by decide) (by decide) | exact ⟨by (first | omega | (have z_ := unhid u19_; omega)), by (first | omega | (have z_ := unhid u19_; omega))⟩) ⟨by decide, by decide⟩) (fun c123 => ?_) (fun c123 => ?_)
              · skip
                replace c123 := hid c123
                refine go_toq PM32 (k := 1) (pc' := 101) (L' := [some (.inr (.inr (some 35))), some (.inl p1), some (.inl 0), some (.inl v_h55)]) (st' := [.inl (-7), .inr (.inr (some 35))]) (w' := (SH, dt115)) rfl ?_
                refine go_callq PM32 PM30 (Q' := _) rfl rfl rfl rfl (sp_X1_emit L xs sio (d + 4) dt115 hI116  (-7) ⟨by decide, by decide⟩ ) ?_
                rintro _ _ ⟨dt125, rfl, hI126, hF127, h124⟩
                refine ⟨rfl, ?_⟩
                have hF128 : Fr [35, 42] dt dt125 := Fr_tr hF118 hF127 (by decide)
                rcases h124 with ⟨rfl, h124⟩
                refine go_retq PM32 (k := 1) (r := none) (w1 := (SH, dt125)) rfl ?_
                have u20_ := hid (And.intro (unhid c3) (And.intro (unhid c5) (And.intro (unhid c56) (And.intro (unhid c82) (And.intro (unhid c121) (unhid c123))))))
                exact ⟨dt125, rfl, hI126, hF128, ⟨rfl, by first | exact True.intro | with_reducible assumption | exact unhid (by with_reducible assumption) | rfl | (first | omega | (have z_ := unhid u20_; omega)) | trivial⟩⟩
              · exfalso; (first | omega | (have z_ := unhid u19_; omega))
            · exfalso; (first | omega | (have z_ := unhid u18_; omega))
          · skip
            replace c108 := hid c108
            refine go_toq PM32 (k := 2) (pc' := 58) (L' := [some (.inr (.inr (some 35))), some (.inl p1), some (.inl 0), some (.inl v_h55)]) (st' := [.inl 1, .inr (.inr (some 35))]) (w' := (SH, dt51)) rfl ?_
            refine go_callq PM32 PM21 (Q' := _) rfl rfl rfl rfl (sp_X1_fail L xs sio (d + 4) dt51 hI52  1 ⟨by decide, by decide⟩ ) ?_
            rintro _ _ ⟨dt130, rfl, hI131, hF132, h129⟩
            refine ⟨rfl, ?_⟩
            have hF133 : Fr [35, 42] dt dt130 := Fr_tr hF54 hF132 (by decide)
            rcases h129 with ⟨rfl, h129⟩
            refine go_retq PM32 (k := 0) (r := none) (w1 := (SH, dt130)) rfl ?_
            have u21_ := hid (And.intro (unhid c3) (And.intro (unhid c5) (And.intro (unhid c56) (And.intro (unhid c82) (unhid c108)))))
            exact ⟨dt130, rfl, hI131, hF133, ⟨rfl, by first | exact True.intro | with_reducible assumption | exact unhid (by with_reducible assumption) | rfl | (first | omega | (have z_ := unhid u21_; omega)) | trivial⟩⟩
  · skip
    have j155 : ∀ (j155_d : Nat → Nat → Int) (j155_hI : InvC j155_d) (j155_hF : Fr [35, 42] dt j155_d) (i156 : j155_d 35 1 = dt 35 1), GO (am_XX L xs sio) (d + 5) 32 174 [some (.inr (.inr (some 35))), none, none, none] [] (SH, j155_d) (fun r w2 => ∃ dt2 : Nat → Nat → Int, w2 = (SH, dt2) ∧ InvC dt2 ∧ Fr [35, 42] dt dt2 ∧ ((r = none ∧ (dt2 35 1 = dt 35 1)))) := by
      intro j155_d j155_hI j155_hF i156
      refine go_retq PM32 (k := 0) (r := none) (w1 := (SH, j155_d)) rfl ?_
      exact ⟨j155_d, rfl, j155_hI, j155_hF, ⟨rfl, by first | exact True.intro | with_reducible assumption | rfl | omega | trivial⟩⟩
    refine go_ifq PM32 (k := 7) (p1 := 121) (p2 := 113) (L' := [some (.inr (.inr (some 35))), some (.inl p1), some (.inl 1), none]) (st' := []) (w' := (SH, dt)) rfl (c_lt (a := p1) (b := 8) (by first | exact bnd h_p1 (by decide) (by decide) | exact ⟨by omega, by omega⟩) ⟨by decide, by decide⟩) (fun c157 => ?_) (fun c157 => ?_)
    · skip
      have r158 : (-2147483648) ≤ dt 35 8 ∧ dt 35 8 ≤ 2147483647 := InvC_get hI 35 8 rfl rfl
      refine go_toq PM32 (k := 7) (pc' := 132) (L' := [some (.inr (.inr (some 35))), some (.inl p1), some (.inl 1), none]) (st' := [.inl ((dt 35 8) + 1), .inr (.inr (some 35))]) (w' := (SH, dt)) rfl ?_
      have r159 := wr_RR ((dt 35 8) + 1)
      have hI160 : InvC (u2 dt 35 8 (wr ((dt 35 8) + 1))) := InvC_u2 hI (lo := -2147483648) (hi := 2147483647) rfl rfl rfl (by omega) (by omega)
      have hF161 : Fr [35, 42] dt (u2 dt 35 8 (wr ((dt 35 8) + 1))) := Fr_u2 hF (by decide)
      have w162 : (u2 dt 35 8 (wr ((dt 35 8) + 1))) 35 1 = dt 35 1 := rfl
      refine go_smpq PM32 (L' := [some (.inr (.inr (some 35))), some (.inl p1), some (.inl 1), none]) (st' := []) (w' := (SH, (u2 dt 35 8 (wr ((dt 35 8) + 1))))) rfl rfl (s_pfw rfl rfl rfl rfl) ?_
      refine go_toq PM32 (k := 4) (pc' := 139) (L' := [some (.inr (.inr (some 35))), some (.inl p1), some (.inl 1), none]) (st' := [.inl (p1 + 1), .inr (.inr (some 35))]) (w' := (SH, (u2 dt 35 8 (wr ((dt 35 8) + 1))))) rfl ?_
      refine go_callq PM32 PM32 (Q' := _) rfl rfl rfl rfl (IH_X1_single L xs sio (d + 1) (u2 dt 35 8 (wr ((dt 35 8) + 1))) hI160  (p1 + 1) (by first | exact bndp h_p1 (by decide) (by decide) | exact ⟨by omega, by omega⟩) (by first | exact True.intro | with_reducible assumption | rfl | omega | trivial) (by first | exact True.intro | with_reducible assumption | rfl | omega | trivial)) ?_
      rintro _ _ ⟨dt164, rfl, hI165, hF166, h163⟩
      refine ⟨rfl, ?_⟩
      have hF167 : Fr [35, 42] dt dt164 := Fr_tr hF161 hF166 (by decide)
      rcases h163 with ⟨rfl, h163⟩
      refine go_toq PM32 (k := 2) (pc' := 145) (L' := [some (.inr (.inr (some 35))), some (.inl p1), some (.inl 1), none]) (st' := [.inl (-8), .inr (.inr (some 35))]) (w' := (SH, dt164)) rfl ?_
      refine go_callq PM32 PM30 (Q' := _) rfl rfl rfl rfl (sp_X1_emit L xs sio (d + 4) dt164 hI165  (-8) ⟨by decide, by decide⟩ ) ?_
      rintro _ _ ⟨dt169, rfl, hI170, hF171, h168⟩
      refine ⟨rfl, ?_⟩
      have hF172 : Fr [35, 42] dt dt169 := Fr_tr hF167 hF171 (by decide)
      rcases h168 with ⟨rfl, h168⟩
      refine go_toq PM32 (k := 1) (pc' := 174) (L' := [some (.inr (.inr (some 35))), some (.inl p1), some (.inl 1), none]) (st' := []) (w' := (SH, dt169)) rfl ?_
      exact GO.le (j155 dt169 hI170 hF172 (by omega)) ⟨.inl rfl, .inr ⟨rfl, trivial⟩, .inr ⟨rfl, trivial⟩, .inl rfl, trivial⟩
    · skip
      refine go_toq PM32 (k := 2) (pc' := 115) (L' := [some (.inr (.inr (some 35))), some (.inl p1), some (.inl 1), none]) (st' := [.inl 3, .inr (.inr (some 35))]) (w' := (SH, dt)) rfl ?_
      refine go_callq PM32 PM21 (Q' := _) rfl rfl rfl rfl (sp_X1_fail L xs sio (d + 4) dt hI  3 ⟨by decide, by decide⟩ ) ?_
      rintro _ _ ⟨dt174, rfl, hI175, hF176, h173⟩
      refine ⟨rfl, ?_⟩
      have hF177 : Fr [35, 42] dt dt174 := Fr_tr hF hF176 (by decide)
      rcases h173 with ⟨rfl, h173⟩
      refine go_toq PM32 (k := 1) (pc' := 174) (L' := [some (.inr (.inr (some 35))), some (.inl p1), some (.inl 1), none]) (st' := []) (w' := (SH, dt174)) rfl ?_
      exact GO.le (j155 dt174 hI175 hF177 (by omega)) ⟨.inl rfl, .inr ⟨rfl, trivial⟩, .inr ⟨rfl, trivial⟩, .inl rfl, trivial⟩
theorem lv_all_X1_single : ∀ j : Nat, (∀ (L : Nat) (xs : Nat → Int32) (sio : Option Nat) (d : Nat) (dt : Nat → Nat → Int) (hI : InvC dt) (p1 : Int) (h_p1 : 0 ≤ p1 ∧ p1 ≤ 8) (h_p0 : p1 + ((j : Nat) : Int) = 8) (h_p1 : 2 * j ≤ d), GO (am_XX L xs sio) (d + 3) 32 0 [some (.inr (.inr (some 35))), some (.inl p1), none, none] [] (SH, dt) (fun r w2 => ∃ dt2 : Nat → Nat → Int, w2 = (SH, dt2) ∧ InvC dt2 ∧ Fr [35, 42] dt dt2 ∧ ((r = none ∧ (dt2 35 1 = dt 35 1))))) ∧ (∀ (L : Nat) (xs : Nat → Int32) (sio : Option Nat) (d : Nat) (dt : Nat → Nat → Int) (hI : InvC dt) (p1 : Int) (h_p1 : 0 ≤ p1 ∧ p1 ≤ 8) (h_p0 : p1 + ((j : Nat) : Int) = 8) (h_p1 : 2 * j ≤ d), GO (am_XX L xs sio) (d + 4) 31 0 [some (.inr (.inr (some 35))), some (.inl p1), none, none] [] (SH, dt) (fun r w2 => ∃ dt2 : Nat → Nat → Int, w2 = (SH, dt2) ∧ InvC dt2 ∧ Fr [35, 42] dt dt2 ∧ ((r = none ∧ (dt2 35 1 = dt 35 1)))))
  | 0 => by
    have g0 : ∀ (L : Nat) (xs : Nat → Int32) (sio : Option Nat) (d : Nat) (dt : Nat → Nat → Int) (hI : InvC dt) (p1 : Int) (h_p1 : 0 ≤ p1 ∧ p1 ≤ 8) (h_p0 : p1 + ((0 : Nat) : Int) = 8) (h_p1 : 2 * 0 ≤ d), GO (am_XX L xs sio) (d + 3) 32 0 [some (.inr (.inr (some 35))), some (.inl p1), none, none] [] (SH, dt) (fun r w2 => ∃ dt2 : Nat → Nat → Int, w2 = (SH, dt2) ∧ InvC dt2 ∧ Fr [35, 42] dt dt2 ∧ ((r = none ∧ (dt2 35 1 = dt 35 1)))) := by
      intro z0 z1 z2 z3 z4 z5 z6 z7 z8 z9
      have e : z6 = 8 := by omega
      subst e
      exact sp_X1_single_8 z0 z1 z2 z3 z4 z5
    have g1 : ∀ (L : Nat) (xs : Nat → Int32) (sio : Option Nat) (d : Nat) (dt : Nat → Nat → Int) (hI : InvC dt) (p1 : Int) (h_p1 : 0 ≤ p1 ∧ p1 ≤ 8) (h_p0 : p1 + ((0 : Nat) : Int) = 8) (h_p1 : 2 * 0 ≤ d), GO (am_XX L xs sio) (d + 4) 31 0 [some (.inr (.inr (some 35))), some (.inl p1), none, none] [] (SH, dt) (fun r w2 => ∃ dt2 : Nat → Nat → Int, w2 = (SH, dt2) ∧ InvC dt2 ∧ Fr [35, 42] dt dt2 ∧ ((r = none ∧ (dt2 35 1 = dt 35 1)))) := fun z0 z1 z2 z3 z4 z5 z6 z7 z8 z9 => lv_X1_condition z0 z1 z2 z3 z4 z5 0 g0 z6 z7 z8 z9
    exact ⟨g0, g1⟩
  | j + 1 => by
    obtain ⟨h_X1_single, h_X1_condition⟩ := lv_all_X1_single j
    have g0 : ∀ (L : Nat) (xs : Nat → Int32) (sio : Option Nat) (d : Nat) (dt : Nat → Nat → Int) (hI : InvC dt) (p1 : Int) (h_p1 : 0 ≤ p1 ∧ p1 ≤ 8) (h_p0 : p1 + (((j + 1) : Nat) : Int) = 8) (h_p1 : 2 * (j + 1) ≤ d), GO (am_XX L xs sio) (d + 3) 32 0 [some (.inr (.inr (some 35))), some (.inl p1), none, none] [] (SH, dt) (fun r w2 => ∃ dt2 : Nat → Nat → Int, w2 = (SH, dt2) ∧ InvC dt2 ∧ Fr [35, 42] dt dt2 ∧ ((r = none ∧ (dt2 35 1 = dt 35 1)))) := by
      intro z0 z1 z2 z3 z4 z5 z6 z7 z8 z9
      have y := lv_X1_single z0 z1 z2 (z3 - 2) z4 z5 j h_X1_single h_X1_condition z6 z7 z8 (by omega)
      rw [show z3 - 2 + 5 = z3 + 3 by first | with_reducible assumption | omega] at y
      exact y
    have g1 : ∀ (L : Nat) (xs : Nat → Int32) (sio : Option Nat) (d : Nat) (dt : Nat → Nat → Int) (hI : InvC dt) (p1 : Int) (h_p1 : 0 ≤ p1 ∧ p1 ≤ 8) (h_p0 : p1 + (((j + 1) : Nat) : Int) = 8) (h_p1 : 2 * (j + 1) ≤ d), GO (am_XX L xs sio) (d + 4) 31 0 [some (.inr (.inr (some 35))), some (.inl p1), none, none] [] (SH, dt) (fun r w2 => ∃ dt2 : Nat → Nat → Int, w2 = (SH, dt2) ∧ InvC dt2 ∧ Fr [35, 42] dt dt2 ∧ ((r = none ∧ (dt2 35 1 = dt 35 1)))) := fun z0 z1 z2 z3 z4 z5 z6 z7 z8 z9 => lv_X1_condition z0 z1 z2 z3 z4 z5 (j + 1) g0 z6 z7 z8 z9
    exact ⟨g0, g1⟩
theorem sp_X1_condition_0 (L : Nat) (xs : Nat → Int32) (sio : Option Nat) (d : Nat) (dt : Nat → Nat → Int) (hI : InvC dt) : GO (am_XX L xs sio) (d + 20) 31 0 [some (.inr (.inr (some 35))), some (.inl 0), none, none] [] (SH, dt) (fun r w2 => ∃ dt2 : Nat → Nat → Int, w2 = (SH, dt2) ∧ InvC dt2 ∧ Fr [35, 42] dt dt2 ∧ ((r = none ∧ (dt2 35 1 = dt 35 1)))) := (lv_all_X1_single 8).2 L xs sio (d + 16) dt hI 0 ⟨by decide, by decide⟩ (by omega) (by omega)
theorem sp_X1_readLine (L : Nat) (xs : Nat → Int32) (sio : Option Nat) (d : Nat) (dt : Nat → Nat → Int) (hI : InvC dt)  (p1 : Int) (h_p1 : 0 ≤ p1 ∧ p1 ≤ 1000)  : GO (am_XX L xs sio) (d + 21) 29 0 [some (.inr (.inr (some 35))), some (.inl p1), none] [] (SH, dt) (fun r w2 => ∃ dt2 : Nat → Nat → Int, w2 = (SH, dt2) ∧ InvC dt2 ∧ Fr [35, 41, 42] dt dt2 ∧ ((r = none ∧ (dt2 35 1 = dt 35 1)))) := by
  have hF : Fr [35, 41, 42] dt dt := Fr_refl
  refine go_ifq PM29 (k := 1) (p1 := 15) (p2 := 4) (L' := [some (.inr (.inr (some 35))), some (.inl p1), none]) (st' := []) (w' := (SH, dt)) rfl (z_lt (a := p1) (by first | exact bnd h_p1 (by decide) (by decide) | exact ⟨by omega, by omega⟩)) (fun c1 => ?_) (fun c1 => ?_)
  · exfalso; omega
  · skip
    refine go_ifq PM29 (k := 6) (p1 := 16) (p2 := 15) (L' := [some (.inr (.inr (some 35))), some (.inl p1), none]) (st' := []) (w' := (SH, dt)) rfl (c_le (a := p1 + 4) (b := 64) (by first | exact bndp h_p1 (by decide) (by decide) | exact ⟨by omega, by omega⟩) ⟨by decide, by decide⟩) (fun c2 => ?_) (fun c2 => ?_)
    · skip
      refine go_toq PM29 (k := 1) (pc' := 17) (L' := [some (.inr (.inr (some 35))), some (.inl p1), none]) (st' := [.inr (.inr (some 35))]) (w' := (SH, dt)) rfl ?_
      refine go_callq PM29 PM20 (Q' := _) rfl rfl rfl rfl (sp_X1_token L xs sio (d + 20) dt hI   ) ?_
      rintro _ _ ⟨rfl, h3⟩
      refine ⟨rfl, ?_⟩
      rcases h3 with ⟨v_h3, rfl, h3r, h3⟩
      refine go_ifq PM29 (k := 1) (p1 := 30) (p2 := 26) (L' := [some (.inr (.inr (some 35))), some (.inl p1), none]) (st' := []) (w' := (SH, dt)) rfl (c_ne (a := v_h3) (b := 1001) (by first | exact bnd h3r (by decide) (by decide) | exact ⟨by omega, by omega⟩) ⟨by decide, by decide⟩) (fun c5 => ?_) (fun c5 => ?_)
      · skip
        replace c5 := hid c5
        have r6 : (-2147483648) ≤ dt 35 8 ∧ dt 35 8 ≤ 2147483647 := InvC_get hI 35 8 rfl rfl
        refine go_toq PM29 (k := 7) (pc' := 39) (L' := [some (.inr (.inr (some 35))), some (.inl p1), some (.inl 0)]) (st' := [.inl ((dt 35 8) + 1), .inr (.inr (some 35))]) (w' := (SH, dt)) rfl ?_
        have r7 := wr_RR ((dt 35 8) + 1)
        have hI8 : InvC (u2 dt 35 8 (wr ((dt 35 8) + 1))) := InvC_u2 hI (lo := -2147483648) (hi := 2147483647) rfl rfl rfl (by (first | omega | (have z0_ := unhid c5; omega))) (by (first | omega | (have z0_ := unhid c5; omega)))
        have hF9 : Fr [35, 41, 42] dt (u2 dt 35 8 (wr ((dt 35 8) + 1))) := Fr_u2 hF (by decide)
        have w10 : (u2 dt 35 8 (wr ((dt 35 8) + 1))) 35 1 = dt 35 1 := rfl
        refine go_smpq PM29 (L' := [some (.inr (.inr (some 35))), some (.inl p1), some (.inl 0)]) (st' := []) (w' := (SH, (u2 dt 35 8 (wr ((dt 35 8) + 1))))) rfl rfl (s_pfw rfl rfl rfl rfl) ?_
        refine go_toq PM29 (k := 7) (pc' := 59) (L' := [some (.inr (.inr (some 35))), some (.inl p1), some (.inl 0)]) (st' := [.inl 8, .inr (.inr (some 35)), .inl p1, .inr (.inr (some 41))]) (w' := (SH, (u2 dt 35 8 (wr ((dt 35 8) + 1))))) rfl ?_
        refine go_callq PM29 PM24 (Q' := _) rfl rfl rfl rfl (sp_X1_oneOf L xs sio (d + 19) (u2 dt 35 8 (wr ((dt 35 8) + 1))) hI8  8 ⟨by decide, by decide⟩ ) ?_
        rintro _ _ ⟨dt17, rfl, hI18, hF19, h16⟩
        refine ⟨rfl, ?_⟩
        have hF20 : Fr [35, 41, 42] dt dt17 := Fr_tr hF9 hF19 (by decide)
        rcases h16 with ⟨v_h16, rfl, h16r, h16⟩
        have hI21 : InvC (u2 dt17 41 (p1).toNat v_h16) := InvC_u2 hI18 (lo := -2147483648) (hi := 2147483647) rfl rfl rfl (by first | exact bnd1 h16r (by decide) | (first | omega | (have z0_ := unhid c5; omega))) (by first | exact bnd2 h16r (by decide) | (first | omega | (have z0_ := unhid c5; omega)))
        have hF22 : Fr [35, 41, 42] dt (u2 dt17 41 (p1).toNat v_h16) := Fr_u2 hF20 (by decide)
        have w23 : (u2 dt17 41 (p1).toNat v_h16) 35 1 = dt17 35 1 := rfl
        refine go_smpq PM29 (L' := [some (.inr (.inr (some 35))), some (.inl p1), some (.inl 0)]) (st' := []) (w' := (SH, (u2 dt17 41 (p1).toNat v_h16))) rfl rfl (s_iast (n := 64) rfl ⟨by (first | omega | (have z0_ := unhid c5; omega)), by (first | omega | (have z0_ := unhid c5; omega))⟩ ⟨by (first | omega | (have z0_ := unhid c5; omega)), by (first | omega | (have z0_ := unhid c5; omega))⟩) ?_
        have r24 : 0 ≤ dt17 35 12 ∧ dt17 35 12 ≤ 500 := InvC_get hI18 35 12 rfl rfl
        refine go_toq PM29 (k := 7) (pc' := 74) (L' := [some (.inr (.inr (some 35))), some (.inl p1), some (.inl 0)]) (st' := [.inl (dt17 35 12), .inl (p1 + 1), .inr (.inr (some 41))]) (w' := (SH, (u2 dt17 41 (p1).toNat v_h16))) rfl ?_
        have hI25 : InvC (u2 (u2 dt17 41 (p1).toNat v_h16) 41 ((p1 + 1).toNat) (dt17 35 12)) := InvC_u2 hI21 (lo := -2147483648) (hi := 2147483647) rfl rfl rfl (by first | exact bnd1 r24 (by decide) | (first | omega | (have z0_ := unhid c5; omega))) (by first | exact bnd2 r24 (by decide) | (first | omega | (have z0_ := unhid c5; omega)))
        have hF26 : Fr [35, 41, 42] dt (u2 (u2 dt17 41 (p1).toNat v_h16) 41 ((p1 + 1).toNat) (dt17 35 12)) := Fr_u2 hF22 (by decide)
        have w27 : (u2 (u2 dt17 41 (p1).toNat v_h16) 41 ((p1 + 1).toNat) (dt17 35 12)) 35 1 = (u2 dt17 41 (p1).toNat v_h16) 35 1 := rfl
        refine go_smpq PM29 (L' := [some (.inr (.inr (some 35))), some (.inl p1), some (.inl 0)]) (st' := []) (w' := (SH, (u2 (u2 dt17 41 (p1).toNat v_h16) 41 ((p1 + 1).toNat) (dt17 35 12)))) rfl rfl (s_iast (n := 64) rfl ⟨by (first | omega | (have z0_ := unhid c5; omega)), by (first | omega | (have z0_ := unhid c5; omega))⟩ (by first | exact bnd r24 (by decide) (by decide) | exact ⟨by (first | omega | (have z0_ := unhid c5; omega)), by (first | omega | (have z0_ := unhid c5; omega))⟩)) ?_
        refine go_toq PM29 (k := 1) (pc' := 76) (L' := [some (.inr (.inr (some 35))), some (.inl p1), some (.inl 0)]) (st' := [.inr (.inr (some 35))]) (w' := (SH, (u2 (u2 dt17 41 (p1).toNat v_h16) 41 ((p1 + 1).toNat) (dt17 35 12)))) rfl ?_
        refine go_callq PM29 PM33 (Q' := _) rfl rfl rfl rfl (sp_X1_sum L xs sio (d + 18) (u2 (u2 dt17 41 (p1).toNat v_h16) 41 ((p1 + 1).toNat) (dt17 35 12)) hI25   ) ?_
        rintro _ _ ⟨dt29, rfl, hI30, hF31, h28⟩
        refine ⟨rfl, ?_⟩
        have hF32 : Fr [35, 41, 42] dt dt29 := Fr_tr hF26 hF31 (by decide)
        rcases h28 with ⟨rfl, h28⟩
        have r33 : 0 ≤ dt29 35 12 ∧ dt29 35 12 ≤ 500 := InvC_get hI30 35 12 rfl rfl
        refine go_toq PM29 (k := 7) (pc' := 90) (L' := [some (.inr (.inr (some 35))), some (.inl p1), some (.inl 0)]) (st' := [.inl (dt29 35 12), .inl (p1 + 2), .inr (.inr (some 41))]) (w' := (SH, dt29)) rfl ?_
        have hI34 : InvC (u2 dt29 41 ((p1 + 2).toNat) (dt29 35 12)) := InvC_u2 hI30 (lo := -2147483648) (hi := 2147483647) rfl rfl rfl (by first | exact bnd1 r33 (by decide) | (first | omega | (have z0_ := unhid c5; omega))) (by first | exact bnd2 r33 (by decide) | (first | omega | (have z0_ := unhid c5; omega)))
        have hF35 : Fr [35, 41, 42] dt (u2 dt29 41 ((p1 + 2).toNat) (dt29 35 12)) := Fr_u2 hF32 (by decide)
        have w36 : (u2 dt29 41 ((p1 + 2).toNat) (dt29 35 12)) 35 1 = dt29 35 1 := rfl
        refine go_smpq PM29 (L' := [some (.inr (.inr (some 35))), some (.inl p1), some (.inl 0)]) (st' := []) (w' := (SH, (u2 dt29 41 ((p1 + 2).toNat) (dt29 35 12)))) rfl rfl (s_iast (n := 64) rfl ⟨by (first | omega | (have z0_ := unhid c5; omega)), by (first | omega | (have z0_ := unhid c5; omega))⟩ (by first | exact bnd r33 (by decide) (by decide) | exact ⟨by (first | omega | (have z0_ := unhid c5; omega)), by (first | omega | (have z0_ := unhid c5; omega))⟩)) ?_
        refine go_toq PM29 (k := 1) (pc' := 92) (L' := [some (.inr (.inr (some 35))), some (.inl p1), some (.inl 0)]) (st' := [.inr (.inr (some 35))]) (w' := (SH, (u2 dt29 41 ((p1 + 2).toNat) (dt29 35 12)))) rfl ?_
        refine go_callq PM29 PM20 (Q' := _) rfl rfl rfl rfl (sp_X1_token L xs sio (d + 20) (u2 dt29 41 ((p1 + 2).toNat) (dt29 35 12)) hI34   ) ?_
        rintro _ _ ⟨rfl, h37⟩
        refine ⟨rfl, ?_⟩
        rcases h37 with ⟨v_h37, rfl, h37r, h37⟩
        have j49 : ∀ (j49_d : Nat → Nat → Int) (j49_hI : InvC j49_d) (j49_hF : Fr [35, 41, 42] dt j49_d) (i50 : j49_d 35 1 = dt 35 1), GO (am_XX L xs sio) (d + 21) 29 116 [some (.inr (.inr (some 35))), some (.inl p1), none] [] (SH, j49_d) (fun r w2 => ∃ dt2 : Nat → Nat → Int, w2 = (SH, dt2) ∧ InvC dt2 ∧ Fr [35, 41, 42] dt dt2 ∧ ((r = none ∧ (dt2 35 1 = dt 35 1)))) := by
          intro j49_d j49_hI j49_hF i50
          have r51 : 0 ≤ j49_d 35 12 ∧ j49_d 35 12 ≤ 500 := InvC_get j49_hI 35 12 rfl rfl
          refine go_toq PM29 (k := 7) (pc' := 127) (L' := [some (.inr (.inr (some 35))), some (.inl p1), none]) (st' := [.inl (j49_d 35 12), .inl (p1 + 3), .inr (.inr (some 41))]) (w' := (SH, j49_d)) rfl ?_
          have hI52 : InvC (u2 j49_d 41 ((p1 + 3).toNat) (j49_d 35 12)) := InvC_u2 j49_hI (lo := -2147483648) (hi := 2147483647) rfl rfl rfl (by first | exact bnd1 r51 (by decide) | (first | omega | (have z0_ := unhid c5; omega))) (by first | exact bnd2 r51 (by decide) | (first | omega | (have z0_ := unhid c5; omega)))
          have hF53 : Fr [35, 41, 42] dt (u2 j49_d 41 ((p1 + 3).toNat) (j49_d 35 12)) := Fr_u2 j49_hF (by decide)
          have w54 : (u2 j49_d 41 ((p1 + 3).toNat) (j49_d 35 12)) 35 1 = j49_d 35 1 := rfl
          refine go_smpq PM29 (L' := [some (.inr (.inr (some 35))), some (.inl p1), none]) (st' := []) (w' := (SH, (u2 j49_d 41 ((p1 + 3).toNat) (j49_d 35 12)))) rfl rfl (s_iast (n := 64) rfl ⟨by (first | omega | (have z0_ := unhid c5; omega)), by (first | omega | (have z0_ := unhid c5; omega))⟩ (by first | exact bnd r51 (by decide) (by decide) | exact ⟨by (first | omega | (have z0_ := unhid c5; omega)), by (first | omega | (have z0_ := unhid c5; omega))⟩)) ?_
          refine go_toq PM29 (k := 2) (pc' := 131) (L' := [some (.inr (.inr (some 35))), some (.inl p1), none]) (st' := [.inl 59, .inr (.inr (some 35))]) (w' := (SH, (u2 j49_d 41 ((p1 + 3).toNat) (j49_d 35 12)))) rfl ?_
          refine go_callq PM29 PM22 (Q' := _) rfl rfl rfl rfl (sp_X1_skip L xs sio (d + 19) (u2 j49_d 41 ((p1 + 3).toNat) (j49_d 35 12)) hI52  59 ⟨by decide, by decide⟩ ) ?_
          rintro _ _ ⟨dt56, rfl, hI57, hF58, h55⟩
          refine ⟨rfl, ?_⟩
          have hF59 : Fr [35, 41, 42] dt dt56 := Fr_tr hF53 hF58 (by decide)
          rcases h55 with ⟨rfl, h55⟩
          refine go_retq PM29 (k := 0) (r := none) (w1 := (SH, dt56)) rfl ?_
          exact ⟨dt56, rfl, hI57, hF59, ⟨rfl, by first | exact True.intro | with_reducible assumption | exact unhid (by with_reducible assumption) | rfl | (first | omega | (have z0_ := unhid c5; omega)) | trivial⟩⟩
        refine go_ifq PM29 (k := 1) (p1 := 116) (p2 := 101) (L' := [some (.inr (.inr (some 35))), some (.inl p1), some (.inl 0)]) (st' := []) (w' := (SH, (u2 dt29 41 ((p1 + 2).toNat) (dt29 35 12)))) rfl (c_ne (a := v_h37) (b := 1002) (by first | exact bnd h37r (by decide) (by decide) | exact ⟨by (first | omega | (have z0_ := unhid c5; omega)), by (first | omega | (have z0_ := unhid c5; omega))⟩) ⟨by decide, by decide⟩) (fun c60 => ?_) (fun c60 => ?_)
        · skip
          replace c60 := hid c60
          exact GO.le (j49 (u2 dt29 41 ((p1 + 2).toNat) (dt29 35 12)) hI34 hF35 (by (first | omega | (have z0_ := unhid c5; have z1_ := unhid c60; omega)))) ⟨.inl rfl, .inl rfl, .inr ⟨rfl, trivial⟩, trivial⟩
        · skip
          have r61 : (-2147483648) ≤ dt29 35 8 ∧ dt29 35 8 ≤ 2147483647 := InvC_get hI30 35 8 rfl rfl
          refine go_toq PM29 (k := 5) (pc' := 108) (L' := [some (.inr (.inr (some 35))), some (.inl p1), some (.inl 0)]) (st' := [.inl ((dt29 35 8) + 1), .inr (.inr (some 35))]) (w' := (SH, (u2 dt29 41 ((p1 + 2).toNat) (dt29 35 12)))) rfl ?_
          have r62 := wr_RR ((dt29 35 8) + 1)
          have hI63 : InvC (u2 (u2 dt29 41 ((p1 + 2).toNat) (dt29 35 12)) 35 8 (wr ((dt29 35 8) + 1))) := InvC_u2 hI34 (lo := -2147483648) (hi := 2147483647) rfl rfl rfl (by (first | omega | (have z0_ := unhid c5; omega))) (by (first | omega | (have z0_ := unhid c5; omega)))
          have hF64 : Fr [35, 41, 42] dt (u2 (u2 dt29 41 ((p1 + 2).toNat) (dt29 35 12)) 35 8 (wr ((dt29 35 8) + 1))) := Fr_u2 hF35 (by decide)
          have w65 : (u2 (u2 dt29 41 ((p1 + 2).toNat) (dt29 35 12)) 35 8 (wr ((dt29 35 8) + 1))) 35 1 = (u2 dt29 41 ((p1 + 2).toNat) (dt29 35 12)) 35 1 := rfl
          refine go_smpq PM29 (L' := [some (.inr (.inr (some 35))), some (.inl p1), some (.inl 0)]) (st' := []) (w' := (SH, (u2 (u2 dt29 41 ((p1 + 2).toNat) (dt29 35 12)) 35 8 (wr ((dt29 35 8) + 1))))) rfl rfl (s_pfw rfl rfl rfl rfl) ?_
          refine go_toq PM29 (k := 2) (pc' := 113) (L' := [some (.inr (.inr (some 35))), some (.inl p1), some (.inl 0)]) (st' := [.inl 0, .inr (.inr (some 35))]) (w' := (SH, (u2 (u2 dt29 41 ((p1 + 2).toNat) (dt29 35 12)) 35 8 (wr ((dt29 35 8) + 1))))) rfl ?_
          refine go_callq PM29 PM31 (Q' := _) rfl rfl rfl rfl (sp_X1_condition_0 L xs sio (d + 0) (u2 (u2 dt29 41 ((p1 + 2).toNat) (dt29 35 12)) 35 8 (wr ((dt29 35 8) + 1))) hI63   ) ?_
          rintro _ _ ⟨dt67, rfl, hI68, hF69, h66⟩
          refine ⟨rfl, ?_⟩
          have hF70 : Fr [35, 41, 42] dt dt67 := Fr_tr hF64 hF69 (by decide)
          rcases h66 with ⟨rfl, h66⟩
          exact GO.le (j49 dt67 hI68 hF70 (by (first | omega | (have z0_ := unhid c5; omega)))) ⟨.inl rfl, .inl rfl, .inr ⟨rfl, trivial⟩, trivial⟩
      · skip
        have r71 : (-2147483648) ≤ dt 35 8 ∧ dt 35 8 ≤ 2147483647 := InvC_get hI 35 8 rfl rfl
        refine go_toq PM29 (k := 8) (pc' := 39) (L' := [some (.inr (.inr (some 35))), some (.inl p1), some (.inl 1)]) (st' := [.inl ((dt 35 8) + 1), .inr (.inr (some 35))]) (w' := (SH, dt)) rfl ?_
        have r72 := wr_RR ((dt 35 8) + 1)
        have hI73 : InvC (u2 dt 35 8 (wr ((dt 35 8) + 1))) := InvC_u2 hI (lo := -2147483648) (hi := 2147483647) rfl rfl rfl (by omega) (by omega)
        have hF74 : Fr [35, 41, 42] dt (u2 dt 35 8 (wr ((dt 35 8) + 1))) := Fr_u2 hF (by decide)
        have w75 : (u2 dt 35 8 (wr ((dt 35 8) + 1))) 35 1 = dt 35 1 := rfl
        refine go_smpq PM29 (L' := [some (.inr (.inr (some 35))), some (.inl p1), some (.inl 1)]) (st' := []) (w' := (SH, (u2 dt 35 8 (wr ((dt 35 8) + 1))))) rfl rfl (s_pfw rfl rfl rfl rfl) ?_
        refine go_toq PM29 (k := 7) (pc' := 62) (L' := [some (.inr (.inr (some 35))), some (.inl p1), some (.inl 1)]) (st' := [.inl 8, .inl p1, .inr (.inr (some 41))]) (w' := (SH, (u2 dt 35 8 (wr ((dt 35 8) + 1))))) rfl ?_
        have hI76 : InvC (u2 (u2 dt 35 8 (wr ((dt 35 8) + 1))) 41 (p1).toNat 8) := InvC_u2 hI73 (lo := -2147483648) (hi := 2147483647) rfl rfl rfl (by decide) (by decide)
        have hF77 : Fr [35, 41, 42] dt (u2 (u2 dt 35 8 (wr ((dt 35 8) + 1))) 41 (p1).toNat 8) := Fr_u2 hF74 (by decide)
        have w78 : (u2 (u2 dt 35 8 (wr ((dt 35 8) + 1))) 41 (p1).toNat 8) 35 1 = (u2 dt 35 8 (wr ((dt 35 8) + 1))) 35 1 := rfl
        refine go_smpq PM29 (L' := [some (.inr (.inr (some 35))), some (.inl p1), some (.inl 1)]) (st' := []) (w' := (SH, (u2 (u2 dt 35 8 (wr ((dt 35 8) + 1))) 41 (p1).toNat 8))) rfl rfl (s_iast (n := 64) rfl (by first | exact bndx h_p1 (by decide) (by decide) | exact ⟨by omega, by omega⟩) ⟨by decide, by decide⟩) ?_
        have r79 : 0 ≤ dt 35 12 ∧ dt 35 12 ≤ 500 := InvC_get hI 35 12 rfl rfl
        refine go_toq PM29 (k := 7) (pc' := 74) (L' := [some (.inr (.inr (some 35))), some (.inl p1), some (.inl 1)]) (st' := [.inl (dt 35 12), .inl (p1 + 1), .inr (.inr (some 41))]) (w' := (SH, (u2 (u2 dt 35 8 (wr ((dt 35 8) + 1))) 41 (p1).toNat 8))) rfl ?_
        have hI80 : InvC (u2 (u2 (u2 dt 35 8 (wr ((dt 35 8) + 1))) 41 (p1).toNat 8) 41 ((p1 + 1).toNat) (dt 35 12)) := InvC_u2 hI76 (lo := -2147483648) (hi := 2147483647) rfl rfl rfl (by first | exact bnd1 r79 (by decide) | omega) (by first | exact bnd2 r79 (by decide) | omega)
        have hF81 : Fr [35, 41, 42] dt (u2 (u2 (u2 dt 35 8 (wr ((dt 35 8) + 1))) 41 (p1).toNat 8) 41 ((p1 + 1).toNat) (dt 35 12)) := Fr_u2 hF77 (by decide)
        have w82 : (u2 (u2 (u2 dt 35 8 (wr ((dt 35 8) + 1))) 41 (p1).toNat 8) 41 ((p1 + 1).toNat) (dt 35 12)) 35 1 = (u2 (u2 dt 35 8 (wr ((dt 35 8) + 1))) 41 (p1).toNat 8) 35 1 := rfl
        refine go_smpq PM29 (L' := [some (.inr (.inr (some 35))), some (.inl p1), some (.inl 1)]) (st' := []) (w' := (SH, (u2 (u2 (u2 dt 35 8 (wr ((dt 35 8) + 1))) 41 (p1).toNat 8) 41 ((p1 + 1).toNat) (dt 35 12)))) rfl rfl (s_iast (n := 64) rfl ⟨by omega, by omega⟩ (by first | exact bnd r79 (by decide) (by decide) | exact ⟨by omega, by omega⟩)) ?_
        refine go_toq PM29 (k := 1) (pc' := 76) (L' := [some (.inr (.inr (some 35))), some (.inl p1), some (.inl 1)]) (st' := [.inr (.inr (some 35))]) (w' := (SH, (u2 (u2 (u2 dt 35 8 (wr ((dt 35 8) + 1))) 41 (p1).toNat 8) 41 ((p1 + 1).toNat) (dt 35 12)))) rfl ?_
        refine go_callq PM29 PM33 (Q' := _) rfl rfl rfl rfl (sp_X1_sum L xs sio (d + 18) (u2 (u2 (u2 dt 35 8 (wr ((dt 35 8) + 1))) 41 (p1).toNat 8) 41 ((p1 + 1).toNat) (dt 35 12)) hI80   ) ?_
        rintro _ _ ⟨dt84, rfl, hI85, hF86, h83⟩
        refine ⟨rfl, ?_⟩
        have hF87 : Fr [35, 41, 42] dt dt84 := Fr_tr hF81 hF86 (by decide)
        rcases h83 with ⟨rfl, h83⟩
        have r88 : 0 ≤ dt84 35 12 ∧ dt84 35 12 ≤ 500 := InvC_get hI85 35 12 rfl rfl
        refine go_toq PM29 (k := 7) (pc' := 90) (L' := [some (.inr (.inr (some 35))), some (.inl p1), some (.inl 1)]) (st' := [.inl (dt84 35 12), .inl (p1 + 2), .inr (.inr (some 41))]) (w' := (SH, dt84)) rfl ?_
        have hI89 : InvC (u2 dt84 41 ((p1 + 2).toNat) (dt84 35 12)) := InvC_u2 hI85 (lo := -2147483648) (hi := 2147483647) rfl rfl rfl (by first | exact bnd1 r88 (by decide) | omega) (by first | exact bnd2 r88 (by decide) | omega)
        have hF90 : Fr [35, 41, 42] dt (u2 dt84 41 ((p1 + 2).toNat) (dt84 35 12)) := Fr_u2 hF87 (by decide)
        have w91 : (u2 dt84 41 ((p1 + 2).toNat) (dt84 35 12)) 35 1 = dt84 35 1 := rfl
        refine go_smpq PM29 (L' := [some (.inr (.inr (some 35))), some (.inl p1), some (.inl 1)]) (st' := []) (w' := (SH, (u2 dt84 41 ((p1 + 2).toNat) (dt84 35 12)))) rfl rfl (s_iast (n := 64) rfl ⟨by omega, by omega⟩ (by first | exact bnd r88 (by decide) (by decide) | exact ⟨by omega, by omega⟩)) ?_
        refine go_toq PM29 (k := 1) (pc' := 92) (L' := [some (.inr (.inr (some 35))), some (.inl p1), some (.inl 1)]) (st' := [.inr (.inr (some 35))]) (w' := (SH, (u2 dt84 41 ((p1 + 2).toNat) (dt84 35 12)))) rfl ?_
        refine go_callq PM29 PM20 (Q' := _) rfl rfl rfl rfl (sp_X1_token L xs sio (d + 20) (u2 dt84 41 ((p1 + 2).toNat) (dt84 35 12)) hI89   ) ?_
        rintro _ _ ⟨rfl, h92⟩
        refine ⟨rfl, ?_⟩
        rcases h92 with ⟨v_h92, rfl, h92r, h92⟩
        have j104 : ∀ (j104_d : Nat → Nat → Int) (j104_hI : InvC j104_d) (j104_hF : Fr [35, 41, 42] dt j104_d) (i105 : j104_d 35 1 = dt 35 1), GO (am_XX L xs sio) (d + 21) 29 116 [some (.inr (.inr (some 35))), some (.inl p1), none] [] (SH, j104_d) (fun r w2 => ∃ dt2 : Nat → Nat → Int, w2 = (SH, dt2) ∧ InvC dt2 ∧ Fr [35, 41, 42] dt dt2 ∧ ((r = none ∧ (dt2 35 1 = dt 35 1)))) := by
          intro j104_d j104_hI j104_hF i105
          have r106 : 0 ≤ j104_d 35 12 ∧ j104_d 35 12 ≤ 500 := InvC_get j104_hI 35 12 rfl rfl
          refine go_toq PM29 (k := 7) (pc' := 127) (L' := [some (.inr (.inr (some 35))), some (.inl p1), none]) (st' := [.inl (j104_d 35 12), .inl (p1 + 3), .inr (.inr (some 41))]) (w' := (SH, j104_d)) rfl ?_
          have hI107 : InvC (u2 j104_d 41 ((p1 + 3).toNat) (j104_d 35 12)) := InvC_u2 j104_hI (lo := -2147483648) (hi := 2147483647) rfl rfl rfl (by first | exact bnd1 r106 (by decide) | omega) (by first | exact bnd2 r106 (by decide) | omega)
          have hF108 : Fr [35, 41, 42] dt (u2 j104_d 41 ((p1 + 3).toNat) (j104_d 35 12)) := Fr_u2 j104_hF (by decide)
          have w109 : (u2 j104_d 41 ((p1 + 3).toNat) (j104_d 35 12)) 35 1 = j104_d 35 1 := rfl
          refine go_smpq PM29 (L' := [some (.inr (.inr (some 35))), some (.inl p1), none]) (st' := []) (w' := (SH, (u2 j104_d 41 ((p1 + 3).toNat) (j104_d 35 12)))) rfl rfl (s_iast (n := 64) rfl ⟨by omega, by omega⟩ (by first | exact bnd r106 (by decide) (by decide) | exact ⟨by omega, by omega⟩)) ?_
          refine go_toq PM29 (k := 2) (pc' := 131) (L' := [some (.inr (.inr (some 35))), some (.inl p1), none]) (st' := [.inl 59, .inr (.inr (some 35))]) (w' := (SH, (u2 j104_d 41 ((p1 + 3).toNat) (j104_d 35 12)))) rfl ?_
          refine go_callq PM29 PM22 (Q' := _) rfl rfl rfl rfl (sp_X1_skip L xs sio (d + 19) (u2 j104_d 41 ((p1 + 3).toNat) (j104_d 35 12)) hI107  59 ⟨by decide, by decide⟩ ) ?_
          rintro _ _ ⟨dt111, rfl, hI112, hF113, h110⟩
          refine ⟨rfl, ?_⟩
          have hF114 : Fr [35, 41, 42] dt dt111 := Fr_tr hF108 hF113 (by decide)
          rcases h110 with ⟨rfl, h110⟩
          refine go_retq PM29 (k := 0) (r := none) (w1 := (SH, dt111)) rfl ?_
          exact ⟨dt111, rfl, hI112, hF114, ⟨rfl, by first | exact True.intro | with_reducible assumption | rfl | omega | trivial⟩⟩
        refine go_ifq PM29 (k := 1) (p1 := 116) (p2 := 101) (L' := [some (.inr (.inr (some 35))), some (.inl p1), some (.inl 1)]) (st' := []) (w' := (SH, (u2 dt84 41 ((p1 + 2).toNat) (dt84 35 12)))) rfl (c_ne (a := v_h92) (b := 1002) (by first | exact bnd h92r (by decide) (by decide) | exact ⟨by omega, by omega⟩) ⟨by decide, by decide⟩) (fun c115 => ?_) (fun c115 => ?_)
        · skip
          replace c115 := hid c115
          exact GO.le (j104 (u2 dt84 41 ((p1 + 2).toNat) (dt84 35 12)) hI89 hF90 (by (first | omega | (have z0_ := unhid c115; omega)))) ⟨.inl rfl, .inl rfl, .inr ⟨rfl, trivial⟩, trivial⟩
        · skip
          have r116 : (-2147483648) ≤ dt84 35 8 ∧ dt84 35 8 ≤ 2147483647 := InvC_get hI85 35 8 rfl rfl
          refine go_toq PM29 (k := 5) (pc' := 108) (L' := [some (.inr (.inr (some 35))), some (.inl p1), some (.inl 1)]) (st' := [.inl ((dt84 35 8) + 1), .inr (.inr (some 35))]) (w' := (SH, (u2 dt84 41 ((p1 + 2).toNat) (dt84 35 12)))) rfl ?_
          have r117 := wr_RR ((dt84 35 8) + 1)
          have hI118 : InvC (u2 (u2 dt84 41 ((p1 + 2).toNat) (dt84 35 12)) 35 8 (wr ((dt84 35 8) + 1))) := InvC_u2 hI89 (lo := -2147483648) (hi := 2147483647) rfl rfl rfl (by omega) (by omega)
          have hF119 : Fr [35, 41, 42] dt (u2 (u2 dt84 41 ((p1 + 2).toNat) (dt84 35 12)) 35 8 (wr ((dt84 35 8) + 1))) := Fr_u2 hF90 (by decide)
          have w120 : (u2 (u2 dt84 41 ((p1 + 2).toNat) (dt84 35 12)) 35 8 (wr ((dt84 35 8) + 1))) 35 1 = (u2 dt84 41 ((p1 + 2).toNat) (dt84 35 12)) 35 1 := rfl
          refine go_smpq PM29 (L' := [some (.inr (.inr (some 35))), some (.inl p1), some (.inl 1)]) (st' := []) (w' := (SH, (u2 (u2 dt84 41 ((p1 + 2).toNat) (dt84 35 12)) 35 8 (wr ((dt84 35 8) + 1))))) rfl rfl (s_pfw rfl rfl rfl rfl) ?_
          refine go_toq PM29 (k := 2) (pc' := 113) (L' := [some (.inr (.inr (some 35))), some (.inl p1), some (.inl 1)]) (st' := [.inl 0, .inr (.inr (some 35))]) (w' := (SH, (u2 (u2 dt84 41 ((p1 + 2).toNat) (dt84 35 12)) 35 8 (wr ((dt84 35 8) + 1))))) rfl ?_
          refine go_callq PM29 PM31 (Q' := _) rfl rfl rfl rfl (sp_X1_condition_0 L xs sio (d + 0) (u2 (u2 dt84 41 ((p1 + 2).toNat) (dt84 35 12)) 35 8 (wr ((dt84 35 8) + 1))) hI118   ) ?_
          rintro _ _ ⟨dt122, rfl, hI123, hF124, h121⟩
          refine ⟨rfl, ?_⟩
          have hF125 : Fr [35, 41, 42] dt dt122 := Fr_tr hF119 hF124 (by decide)
          rcases h121 with ⟨rfl, h121⟩
          exact GO.le (j104 dt122 hI123 hF125 (by omega)) ⟨.inl rfl, .inl rfl, .inr ⟨rfl, trivial⟩, trivial⟩
    · skip
      refine go_retq PM29 (k := 0) (r := none) (w1 := (SH, dt)) rfl ?_
      exact ⟨dt, rfl, hI, hF, ⟨rfl, by first | exact True.intro | with_reducible assumption | rfl | omega | trivial⟩⟩
theorem sp_X1_readLaw (L : Nat) (xs : Nat → Int32) (sio : Option Nat) (d : Nat) (dt : Nat → Nat → Int) (hI : InvC dt)    : GO (am_XX L xs sio) (d + 22) 28 0 [some (.inr (.inr (some 35))), none, none] [] (SH, dt) (fun r w2 => ∃ dt2 : Nat → Nat → Int, w2 = (SH, dt2) ∧ InvC dt2 ∧ Fr [35, 41, 42] dt dt2 ∧ ((∃ v : Int, r = some (.inl v) ∧ (0 ≤ v ∧ v ≤ 511) ∧ (dt2 35 1 = dt 35 1)))) := by
  have hF : Fr [35, 41, 42] dt dt := Fr_refl
  refine go_toq PM28 (k := 4) (pc' := 4) (L' := [some (.inr (.inr (some 35))), some (.inl 0), some (.inl 0)]) (st' := []) (w' := (SH, dt)) rfl ?_
  have loop557 : ∀ (k_ : Nat) (l4_1 : Int) (l4_2 : Int) (dt551 : Nat → Nat → Int) (hI552 : InvC dt551) (hF553 : Fr [35, 41, 42] dt dt551) (i554 : 0 ≤ l4_1 ∧ l4_1 ≤ 16) (i555 : 0 ≤ l4_2 ∧ l4_2 ≤ 501) (i556 : dt551 35 1 = dt 35 1), (502 - l4_2).toNat < k_ → GO (am_XX L xs sio) (d + 22) 28 4 [some (.inr (.inr (some 35))), some (.inl l4_1), some (.inl l4_2)] [] (SH, dt551) (fun r w2 => ∃ dt2 : Nat → Nat → Int, w2 = (SH, dt2) ∧ InvC dt2 ∧ Fr [35, 41, 42] dt dt2 ∧ ((∃ v : Int, r = some (.inl v) ∧ (0 ≤ v ∧ v ≤ 511) ∧ (dt2 35 1 = dt 35 1)))) := by
    intro k_
    induction k_ with
    | zero => intro l4_1 l4_2 dt551 hI552 hF553 i554 i555 i556 hm; exact absurd hm (Nat.not_lt_zero _)
    | succ k_ ih_loop557 =>
      intro l4_1 l4_2 dt551 hI552 hF553 i554 i555 i556 hm
      have j593 :  GO (am_XX L xs sio) (d + 22) 28 76 [some (.inr (.inr (some 35))), some (.inl l4_1), none] [] (SH, dt551) (fun r w2 => ∃ dt2 : Nat → Nat → Int, w2 = (SH, dt2) ∧ InvC dt2 ∧ Fr [35, 41, 42] dt dt2 ∧ ((∃ v : Int, r = some (.inl v) ∧ (0 ≤ v ∧ v ≤ 511) ∧ (dt2 35 1 = dt 35 1)))) := by
        skip
        refine go_retq PM28 (k := 1) (r := some (.inl l4_1)) (w1 := (SH, dt551)) rfl ?_
        exact ⟨dt551, rfl, hI552, hF553, ⟨_, rfl, (by first | exact bnd i554 (by decide) (by decide) | exact ⟨by omega, by omega⟩), by first | exact True.intro | with_reducible assumption | rfl | omega | trivial⟩⟩
      refine go_ifq PM28 (k := 2) (p1 := 76) (p2 := 11) (L' := [some (.inr (.inr (some 35))), some (.inl l4_1), some (.inl l4_2)]) (st' := []) (w' := (SH, dt551)) rfl (c_gt (a := l4_2) (b := 500) (by first | exact bnd i555 (by decide) (by decide) | exact ⟨by omega, by omega⟩) ⟨by decide, by decide⟩) (fun c594 => ?_) (fun c594 => ?_)
      · skip
        exact GO.le (j593 ) ⟨.inl rfl, .inl rfl, .inr ⟨rfl, trivial⟩, trivial⟩
      · skip
        refine go_toq PM28 (k := 1) (pc' := 12) (L' := [some (.inr (.inr (some 35))), some (.inl l4_1), some (.inl l4_2)]) (st' := [.inr (.inr (some 35))]) (w' := (SH, dt551)) rfl ?_
        refine go_callq PM28 PM20 (Q' := _) rfl rfl rfl rfl (sp_X1_token L xs sio (d + 21) dt551 hI552   ) ?_
        rintro _ _ ⟨rfl, h595⟩
        refine ⟨rfl, ?_⟩
        rcases h595 with ⟨v_h595, rfl, h595r, h595⟩
        refine go_ifq PM28 (k := 0) (p1 := 76) (p2 := 18) (L' := [some (.inr (.inr (some 35))), some (.inl l4_1), some (.inl l4_2)]) (st' := []) (w' := (SH, dt551)) rfl (z_eq (a := v_h595) (by first | exact bnd h595r (by decide) (by decide) | exact ⟨by omega, by omega⟩)) (fun c596 => ?_) (fun c596 => ?_)
        · skip
          exact GO.le (j593 ) ⟨.inl rfl, .inl rfl, .inr ⟨rfl, trivial⟩, trivial⟩
        · skip
          replace c596 := hid c596
          refine go_toq PM28 (k := 1) (pc' := 19) (L' := [some (.inr (.inr (some 35))), some (.inl l4_1), some (.inl l4_2)]) (st' := [.inr (.inr (some 35))]) (w' := (SH, dt551)) rfl ?_
          refine go_callq PM28 PM20 (Q' := _) rfl rfl rfl rfl (sp_X1_token L xs sio (d + 21) dt551 hI552   ) ?_
          rintro _ _ ⟨rfl, h597⟩
          refine ⟨rfl, ?_⟩
          rcases h597 with ⟨v_h597, rfl, h597r, h597⟩
          have j628 : ∀ (j628_a1 : Int) (j628_d : Nat → Nat → Int) (j628_hI : InvC j628_d) (j628_hF : Fr [35, 41, 42] dt j628_d) (i629 : 0 ≤ j628_a1 ∧ j628_a1 ≤ 16) (i630 : l4_1 + 0 ≤ j628_a1 ∧ j628_a1 ≤ l4_1 + 1) (i631 : j628_d 35 1 = dt 35 1), GO (am_XX L xs sio) (d + 22) 28 70 [some (.inr (.inr (some 35))), some (.inl j628_a1), some (.inl l4_2)] [] (SH, j628_d) (fun r w2 => ∃ dt2 : Nat → Nat → Int, w2 = (SH, dt2) ∧ InvC dt2 ∧ Fr [35, 41, 42] dt dt2 ∧ ((∃ v : Int, r = some (.inl v) ∧ (0 ≤ v ∧ v ≤ 511) ∧ (dt2 35 1 = dt 35 1)))) := by
            intro j628_a1 j628_d j628_hI j628_hF i629 i630 i631
            refine go_toq PM28 (k := 2) (pc' := 4) (L' := [some (.inr (.inr (some 35))), some (.inl j628_a1), some (.inl (l4_2 + 1))]) (st' := []) (w' := (SH, j628_d)) rfl ?_
            exact GO.le (ih_loop557 j628_a1 (l4_2 + 1) j628_d j628_hI j628_hF (by first | exact bnd i629 (by decide) (by decide) | (first | omega | (have z0_ := unhid c596; omega))) (by first | exact bndp i555 (by decide) (by decide) | (first | omega | (have z0_ := unhid c596; omega))) (by (first | omega | (have z0_ := unhid c596; omega))) (by (first | omega | (have z0_ := unhid c596; omega)))) ⟨.inl rfl, .inl rfl, .inl rfl, trivial⟩
          refine go_ifq PM28 (k := 1) (p1 := 46) (p2 := 28) (L' := [some (.inr (.inr (some 35))), some (.inl l4_1), some (.inl l4_2)]) (st' := []) (w' := (SH, dt551)) rfl (c_eq (a := v_h597) (b := 1000) (by first | exact bnd h597r (by decide) (by decide) | exact ⟨by (first | omega | (have z0_ := unhid c596; omega)), by (first | omega | (have z0_ := unhid c596; omega))⟩) ⟨by decide, by decide⟩) (fun c632 => ?_) (fun c632 => ?_)
          · skip
            refine go_ifq PM28 (k := 2) (p1 := 60) (p2 := 52) (L' := [some (.inr (.inr (some 35))), some (.inl l4_1), some (.inl l4_2)]) (st' := []) (w' := (SH, dt551)) rfl (c_lt (a := l4_1) (b := 16) (by first | exact bnd i554 (by decide) (by decide) | exact ⟨by (first | omega | (have z0_ := unhid c596; omega)), by (first | omega | (have z0_ := unhid c596; omega))⟩) ⟨by decide, by decide⟩) (fun c633 => ?_) (fun c633 => ?_)
            · skip
              refine go_toq PM28 (k := 4) (pc' := 64) (L' := [some (.inr (.inr (some 35))), some (.inl l4_1), some (.inl l4_2)]) (st' := [.inl (l4_1 * 4), .inr (.inr (some 35))]) (w' := (SH, dt551)) rfl ?_
              refine go_callq PM28 PM29 (Q' := _) rfl rfl rfl rfl (sp_X1_readLine L xs sio (d + 0) dt551 hI552  (l4_1 * 4) ⟨by (first | omega | (have z0_ := unhid c596; omega)), by (first | omega | (have z0_ := unhid c596; omega))⟩ ) ?_
              rintro _ _ ⟨dt635, rfl, hI636, hF637, h634⟩
              refine ⟨rfl, ?_⟩
              have hF638 : Fr [35, 41, 42] dt dt635 := Fr_tr hF553 hF637 (by decide)
              rcases h634 with ⟨rfl, h634⟩
              refine go_toq PM28 (k := 1) (pc' := 70) (L' := [some (.inr (.inr (some 35))), some (.inl (l4_1 + 1)), some (.inl l4_2)]) (st' := []) (w' := (SH, dt635)) rfl ?_
              exact GO.le (j628 (l4_1 + 1) dt635 hI636 hF638 (by first | exact bndp i554 (by decide) (by decide) | (first | omega | (have z0_ := unhid c596; omega))) (by (first | omega | (have z0_ := unhid c596; omega))) (by (first | omega | (have z0_ := unhid c596; omega)))) ⟨.inl rfl, .inl rfl, .inl rfl, trivial⟩
            · skip
              refine go_toq PM28 (k := 2) (pc' := 54) (L' := [some (.inr (.inr (some 35))), some (.inl l4_1), some (.inl l4_2)]) (st' := [.inl 3, .inr (.inr (some 35))]) (w' := (SH, dt551)) rfl ?_
              refine go_callq PM28 PM21 (Q' := _) rfl rfl rfl rfl (sp_X1_fail L xs sio (d + 21) dt551 hI552  3 ⟨by decide, by decide⟩ ) ?_
              rintro _ _ ⟨dt640, rfl, hI641, hF642, h639⟩
              refine ⟨rfl, ?_⟩
              have hF643 : Fr [35, 41, 42] dt dt640 := Fr_tr hF553 hF642 (by decide)
              rcases h639 with ⟨rfl, h639⟩
              refine go_toq PM28 (k := 1) (pc' := 70) (L' := [some (.inr (.inr (some 35))), some (.inl l4_1), some (.inl l4_2)]) (st' := []) (w' := (SH, dt640)) rfl ?_
              exact GO.le (j628 l4_1 dt640 hI641 hF643 (by first | exact bnd i554 (by decide) (by decide) | (first | omega | (have z0_ := unhid c596; omega))) (by (first | omega | (have z0_ := unhid c596; omega))) (by (first | omega | (have z0_ := unhid c596; omega)))) ⟨.inl rfl, .inl rfl, .inl rfl, trivial⟩
          · skip
            replace c632 := hid c632
            refine go_toq PM28 (k := 1) (pc' := 29) (L' := [some (.inr (.inr (some 35))), some (.inl l4_1), some (.inl l4_2)]) (st' := [.inr (.inr (some 35))]) (w' := (SH, dt551)) rfl ?_
            refine go_callq PM28 PM20 (Q' := _) rfl rfl rfl rfl (sp_X1_token L xs sio (d + 21) dt551 hI552   ) ?_
            rintro _ _ ⟨rfl, h644⟩
            refine ⟨rfl, ?_⟩
            rcases h644 with ⟨v_h644, rfl, h644r, h644⟩
            refine go_ifq PM28 (k := 1) (p1 := 46) (p2 := 38) (L' := [some (.inr (.inr (some 35))), some (.inl l4_1), some (.inl l4_2)]) (st' := []) (w' := (SH, dt551)) rfl (c_eq (a := v_h644) (b := 1001) (by first | exact bnd h644r (by decide) (by decide) | exact ⟨by (first | omega | (have z0_ := unhid c596; have z1_ := unhid c632; omega)), by (first | omega | (have z0_ := unhid c596; have z1_ := unhid c632; omega))⟩) ⟨by decide, by decide⟩) (fun c645 => ?_) (fun c645 => ?_)
            · skip
              refine go_ifq PM28 (k := 2) (p1 := 60) (p2 := 52) (L' := [some (.inr (.inr (some 35))), some (.inl l4_1), some (.inl l4_2)]) (st' := []) (w' := (SH, dt551)) rfl (c_lt (a := l4_1) (b := 16) (by first | exact bnd i554 (by decide) (by decide) | exact ⟨by (first | omega | (have z0_ := unhid c596; have z1_ := unhid c632; omega)), by (first | omega | (have z0_ := unhid c596; have z1_ := unhid c632; omega))⟩) ⟨by decide, by decide⟩) (fun c646 => ?_) (fun c646 => ?_)
              · skip
                refine go_toq PM28 (k := 4) (pc' := 64) (L' := [some (.inr (.inr (some 35))), some (.inl l4_1), some (.inl l4_2)]) (st' := [.inl (l4_1 * 4), .inr (.inr (some 35))]) (w' := (SH, dt551)) rfl ?_
                refine go_callq PM28 PM29 (Q' := _) rfl rfl rfl rfl (sp_X1_readLine L xs sio (d + 0) dt551 hI552  (l4_1 * 4) ⟨by (first | omega | (have z0_ := unhid c596; have z1_ := unhid c632; omega)), by (first | omega | (have z0_ := unhid c596; have z1_ := unhid c632; omega))⟩ ) ?_
                rintro _ _ ⟨dt648, rfl, hI649, hF650, h647⟩
                refine ⟨rfl, ?_⟩
                have hF651 : Fr [35, 41, 42] dt dt648 := Fr_tr hF553 hF650 (by decide)
                rcases h647 with ⟨rfl, h647⟩
                refine go_toq PM28 (k := 1) (pc' := 70) (L' := [some (.inr (.inr (some 35))), some (.inl (l4_1 + 1)), some (.inl l4_2)]) (st' := []) (w' := (SH, dt648)) rfl ?_
                exact GO.le (j628 (l4_1 + 1) dt648 hI649 hF651 (by first | exact bndp i554 (by decide) (by decide) | (first | omega | (have z0_ := unhid c596; have z1_ := unhid c632; omega))) (by (first | omega | (have z0_ := unhid c596; have z1_ := unhid c632; omega))) (by (first | omega | (have z0_ := unhid c596; have z1_ := unhid c632; omega)))) ⟨.inl rfl, .inl rfl, .inl rfl, trivial⟩
              · skip
                refine go_toq PM28 (k := 2) (pc' := 54) (L' := [some (.inr (.inr (some 35))), some (.inl l4_1), some (.inl l4_2)]) (st' := [.inl 3, .inr (.inr (some 35))]) (w' := (SH, dt551)) rfl ?_
                refine go_callq PM28 PM21 (Q' := _) rfl rfl rfl rfl (sp_X1_fail L xs sio (d + 21) dt551 hI552  3 ⟨by decide, by decide⟩ ) ?_
                rintro _ _ ⟨dt653, rfl, hI654, hF655, h652⟩
                refine ⟨rfl, ?_⟩
                have hF656 : Fr [35, 41, 42] dt dt653 := Fr_tr hF553 hF655 (by decide)
                rcases h652 with ⟨rfl, h652⟩
                refine go_toq PM28 (k := 1) (pc' := 70) (L' := [some (.inr (.inr (some 35))), some (.inl l4_1), some (.inl l4_2)]) (st' := []) (w' := (SH, dt653)) rfl ?_
                exact GO.le (j628 l4_1 dt653 hI654 hF656 (by first | exact bnd i554 (by decide) (by decide) | (first | omega | (have z0_ := unhid c596; have z1_ := unhid c632; omega))) (by (first | omega | (have z0_ := unhid c596; have z1_ := unhid c632; omega))) (by (first | omega | (have z0_ := unhid c596; have z1_ := unhid c632; omega)))) ⟨.inl rfl, .inl rfl, .inl rfl, trivial⟩
            · skip
              replace c645 := hid c645
              refine go_toq PM28 (k := 2) (pc' := 40) (L' := [some (.inr (.inr (some 35))), some (.inl l4_1), some (.inl l4_2)]) (st' := [.inl 1, .inr (.inr (some 35))]) (w' := (SH, dt551)) rfl ?_
              refine go_callq PM28 PM21 (Q' := _) rfl rfl rfl rfl (sp_X1_fail L xs sio (d + 21) dt551 hI552  1 ⟨by decide, by decide⟩ ) ?_
              rintro _ _ ⟨dt658, rfl, hI659, hF660, h657⟩
              refine ⟨rfl, ?_⟩
              have hF661 : Fr [35, 41, 42] dt dt658 := Fr_tr hF553 hF660 (by decide)
              rcases h657 with ⟨rfl, h657⟩
              refine go_toq PM28 (k := 1) (pc' := 70) (L' := [some (.inr (.inr (some 35))), some (.inl l4_1), some (.inl l4_2)]) (st' := []) (w' := (SH, dt658)) rfl ?_
              exact GO.le (j628 l4_1 dt658 hI659 hF661 (by first | exact bnd i554 (by decide) (by decide) | (first | omega | (have z0_ := unhid c596; have z1_ := unhid c632; have z2_ := unhid c645; omega))) (by (first | omega | (have z0_ := unhid c596; have z1_ := unhid c632; have z2_ := unhid c645; omega))) (by (first | omega | (have z0_ := unhid c596; have z1_ := unhid c632; have z2_ := unhid c645; omega)))) ⟨.inl rfl, .inl rfl, .inl rfl, trivial⟩
  exact GO.le (loop557 _ 0 0 dt hI hF ⟨by decide, by decide⟩ ⟨by decide, by decide⟩ (by omega) (Nat.lt_succ_self _)) ⟨.inl rfl, .inl rfl, .inl rfl, trivial⟩
