theorem sp_X1_byteAt_f (L : Nat) (xs : Nat → Int32) (sio : Option Nat) (d : Nat) (dt : Nat → Nat → Int) (hI : InvC dt)  (p1 : Int) (h_p1 : 0 ≤ p1 ∧ p1 ≤ 502)  : GO (am_XX L xs sio) (d) 10 0 [some (.inr (.inr (some 35))), some (.inl p1)] [] (SH, dt) (fun r w2 => w2 = (SH, dt) ∧ ((∃ v : Int, r = some (.inl v) ∧ (0 ≤ v ∧ v ≤ 255) ∧ (v = (mB (fun j => am_and (dt 36 j) 255) (dt 35 1)) p1.toNat)))) := by
  have r1 : 0 ≤ dt 35 1 ∧ dt 35 1 ≤ 500 := InvC_get hI 35 1 rfl rfl
  refine go_ifq PM10 (k := 1) (p1 := 25) (p2 := 4) (L' := [some (.inr (.inr (some 35))), some (.inl p1)]) (st' := []) (w' := (SH, dt)) rfl (z_lt (a := p1) (by first | exact bnd h_p1 (by decide) (by decide) | exact ⟨by fail, by fail⟩)) (fun c2 => ?_) (fun c2 => ?_)
  · exfalso; omega
  · skip
    refine go_ifq PM10 (k := 3) (p1 := 25) (p2 := 12) (L' := [some (.inr (.inr (some 35))), some (.inl p1)]) (st' := []) (w' := (SH, dt)) rfl (c_ge (a := p1) (b := dt 35 1) (by first | exact bnd h_p1 (by decide) (by decide) | exact ⟨by fail, by fail⟩) (by first | exact bnd r1 (by decide) (by decide) | exact ⟨by fail, by fail⟩)) (fun c3 => ?_) (fun c3 => ?_)
    · skip
      refine go_retq PM10 (k := 1) (r := some (.inl 0)) (w1 := (SH, dt)) rfl ?_
      exact ⟨rfl, ⟨_, rfl, ⟨by decide, by decide⟩, by first | (rw [mB_in (by fail) (by fail)]) | (rw [mB_out (by omega) (by omega)])⟩⟩
    · skip
      refine go_toq PM10 (k := 3) (pc' := 17) (L' := [some (.inr (.inr (some 35))), some (.inl p1)]) (st' := [.inl p1, .inr (.inr (some 36))]) (w' := (SH, dt)) rfl ?_
      have r4 : (-128) ≤ dt 36 (p1).toNat ∧ dt 36 (p1).toNat ≤ 127 := InvC_get hI 36 (p1).toNat rfl rfl
      refine go_smpq PM10 (L' := [some (.inr (.inr (some 35))), some (.inl p1)]) (st' := [.inl (dt 36 (p1).toNat)]) (w' := (SH, dt)) rfl rfl (s_bald (n := 500) (f := dt 36) rfl (by first | exact bndc h_p1 c3 (by decide) (by decide) | exact bndx h_p1 (by decide) (by decide) | exact ⟨by omega, by omega⟩)) ?_
      have r5 : 0 ≤ am_and (dt 36 (p1).toNat) 255 ∧ am_and (dt 36 (p1).toNat) 255 ≤ 255 := and_R255
      refine go_retq PM10 (k := 3) (r := some (.inl (am_and (dt 36 (p1).toNat) 255))) (w1 := (SH, dt)) rfl ?_
      exact ⟨rfl, ⟨_, rfl, (by first | exact bnd r5 (by decide) (by decide) | exact ⟨by fail, by fail⟩), by first | (rw [mB_in (by omega) (by omega)]) | (rw [mB_out (by fail) (by fail)])⟩⟩
theorem sp_X1_isBlank_f (L : Nat) (xs : Nat → Int32) (sio : Option Nat) (d : Nat) (dt : Nat → Nat → Int) (hI : InvC dt)  (p1 : Int) (h_p1 : (-2147483648) ≤ p1 ∧ p1 ≤ 2147483647)  : GO (am_XX L xs sio) (d) 11 0 [some (.inl p1)] [] (SH, dt) (fun r w2 => w2 = (SH, dt) ∧ ((∃ v : Int, r = some (.inl v) ∧ (0 ≤ v ∧ v ≤ 1) ∧ (v = 1 ↔ (p1 = 32 ∨ p1 = 10))))) := by
  refine go_ifq PM11 (k := 2) (p1 := 12) (p2 := 6) (L' := [some (.inl p1)]) (st' := []) (w' := (SH, dt)) rfl (c_eq (a := p1) (b := 32) (by first | exact bnd h_p1 (by decide) (by decide) | exact ⟨by fail, by fail⟩) ⟨by decide, by decide⟩) (fun c1 => ?_) (fun c1 => ?_)
  · skip
    refine go_retq PM11 (k := 2) (r := some (.inl 1)) (w1 := (SH, dt)) rfl ?_
    exact ⟨rfl, ⟨_, rfl, ⟨by decide, by decide⟩, by first | exact True.intro | with_reducible assumption | rfl | omega | trivial⟩⟩
  · skip
    replace c1 := hid c1
    refine go_ifq PM11 (k := 2) (p1 := 16) (p2 := 12) (L' := [some (.inl p1)]) (st' := []) (w' := (SH, dt)) rfl (c_ne (a := p1) (b := 10) (by first | exact bnd h_p1 (by decide) (by decide) | exact ⟨by fail, by fail⟩) ⟨by decide, by decide⟩) (fun c2 => ?_) (fun c2 => ?_)
    · skip
      replace c2 := hid c2
      refine go_retq PM11 (k := 1) (r := some (.inl 0)) (w1 := (SH, dt)) rfl ?_
      exact ⟨rfl, ⟨_, rfl, ⟨by decide, by decide⟩, by first | exact True.intro | with_reducible assumption | exact unhid (by with_reducible assumption) | rfl | (have z0_ := unhid c1; have z1_ := unhid c2; omega) | trivial⟩⟩
    · skip
      refine go_retq PM11 (k := 2) (r := some (.inl 1)) (w1 := (SH, dt)) rfl ?_
      exact ⟨rfl, ⟨_, rfl, ⟨by decide, by decide⟩, by first | exact True.intro | with_reducible assumption | exact unhid (by with_reducible assumption) | rfl | omega | trivial⟩⟩
theorem sp_X1_isDigit_f (L : Nat) (xs : Nat → Int32) (sio : Option Nat) (d : Nat) (dt : Nat → Nat → Int) (hI : InvC dt)  (p1 : Int) (h_p1 : (-2147483648) ≤ p1 ∧ p1 ≤ 2147483647)  : GO (am_XX L xs sio) (d) 12 0 [some (.inl p1)] [] (SH, dt) (fun r w2 => w2 = (SH, dt) ∧ ((∃ v : Int, r = some (.inl v) ∧ (0 ≤ v ∧ v ≤ 1) ∧ (v = 1 ↔ (48 ≤ p1 ∧ p1 ≤ 57))))) := by
  refine go_ifq PM12 (k := 2) (p1 := 16) (p2 := 6) (L' := [some (.inl p1)]) (st' := []) (w' := (SH, dt)) rfl (c_lt (a := p1) (b := 48) (by first | exact bnd h_p1 (by decide) (by decide) | exact ⟨by fail, by fail⟩) ⟨by decide, by decide⟩) (fun c1 => ?_) (fun c1 => ?_)
  · skip
    refine go_retq PM12 (k := 1) (r := some (.inl 0)) (w1 := (SH, dt)) rfl ?_
    exact ⟨rfl, ⟨_, rfl, ⟨by decide, by decide⟩, by first | exact True.intro | with_reducible assumption | rfl | omega | trivial⟩⟩
  · skip
    refine go_ifq PM12 (k := 2) (p1 := 16) (p2 := 12) (L' := [some (.inl p1)]) (st' := []) (w' := (SH, dt)) rfl (c_gt (a := p1) (b := 57) (by first | exact bnd h_p1 (by decide) (by decide) | exact ⟨by fail, by fail⟩) ⟨by decide, by decide⟩) (fun c2 => ?_) (fun c2 => ?_)
    · skip
      refine go_retq PM12 (k := 1) (r := some (.inl 0)) (w1 := (SH, dt)) rfl ?_
      exact ⟨rfl, ⟨_, rfl, ⟨by decide, by decide⟩, by first | exact True.intro | with_reducible assumption | rfl | omega | trivial⟩⟩
    · skip
      refine go_retq PM12 (k := 2) (r := some (.inl 1)) (w1 := (SH, dt)) rfl ?_
      exact ⟨rfl, ⟨_, rfl, ⟨by decide, by decide⟩, by first | exact True.intro | with_reducible assumption | rfl | omega | trivial⟩⟩
theorem sp_X1_isLetter_f (L : Nat) (xs : Nat → Int32) (sio : Option Nat) (d : Nat) (dt : Nat → Nat → Int) (hI : InvC dt)  (p1 : Int) (h_p1 : (-2147483648) ≤ p1 ∧ p1 ≤ 2147483647)  : GO (am_XX L xs sio) (d) 13 0 [some (.inl p1)] [] (SH, dt) (fun r w2 => w2 = (SH, dt) ∧ ((∃ v : Int, r = some (.inl v) ∧ (0 ≤ v ∧ v ≤ 1) ∧ (v = 1 ↔ ((97 ≤ p1 ∧ p1 ≤ 122) ∨ (65 ≤ p1 ∧ p1 ≤ 90)))))) := by
  refine go_ifq PM13 (k := 2) (p1 := 12) (p2 := 6) (L' := [some (.inl p1)]) (st' := []) (w' := (SH, dt)) rfl (c_lt (a := p1) (b := 97) (by first | exact bnd h_p1 (by decide) (by decide) | exact ⟨by fail, by fail⟩) ⟨by decide, by decide⟩) (fun c1 => ?_) (fun c1 => ?_)
  · skip
    refine go_ifq PM13 (k := 2) (p1 := 28) (p2 := 18) (L' := [some (.inl p1)]) (st' := []) (w' := (SH, dt)) rfl (c_lt (a := p1) (b := 65) (by first | exact bnd h_p1 (by decide) (by decide) | exact ⟨by fail, by fail⟩) ⟨by decide, by decide⟩) (fun c2 => ?_) (fun c2 => ?_)
    · skip
      refine go_retq PM13 (k := 1) (r := some (.inl 0)) (w1 := (SH, dt)) rfl ?_
      exact ⟨rfl, ⟨_, rfl, ⟨by decide, by decide⟩, by first | exact True.intro | with_reducible assumption | rfl | omega | trivial⟩⟩
    · skip
      refine go_ifq PM13 (k := 2) (p1 := 28) (p2 := 24) (L' := [some (.inl p1)]) (st' := []) (w' := (SH, dt)) rfl (c_gt (a := p1) (b := 90) (by first | exact bnd h_p1 (by decide) (by decide) | exact ⟨by fail, by fail⟩) ⟨by decide, by decide⟩) (fun c3 => ?_) (fun c3 => ?_)
      · skip
        refine go_retq PM13 (k := 1) (r := some (.inl 0)) (w1 := (SH, dt)) rfl ?_
        exact ⟨rfl, ⟨_, rfl, ⟨by decide, by decide⟩, by first | exact True.intro | with_reducible assumption | rfl | omega | trivial⟩⟩
      · skip
        refine go_retq PM13 (k := 2) (r := some (.inl 1)) (w1 := (SH, dt)) rfl ?_
        exact ⟨rfl, ⟨_, rfl, ⟨by decide, by decide⟩, by first | exact True.intro | with_reducible assumption | rfl | omega | trivial⟩⟩
  · skip
    refine go_ifq PM13 (k := 2) (p1 := 24) (p2 := 12) (L' := [some (.inl p1)]) (st' := []) (w' := (SH, dt)) rfl (c_le (a := p1) (b := 122) (by first | exact bnd h_p1 (by decide) (by decide) | exact ⟨by fail, by fail⟩) ⟨by decide, by decide⟩) (fun c4 => ?_) (fun c4 => ?_)
    · skip
      refine go_retq PM13 (k := 2) (r := some (.inl 1)) (w1 := (SH, dt)) rfl ?_
      exact ⟨rfl, ⟨_, rfl, ⟨by decide, by decide⟩, by first | exact True.intro | with_reducible assumption | rfl | omega | trivial⟩⟩
    · skip
      refine go_ifq PM13 (k := 2) (p1 := 28) (p2 := 18) (L' := [some (.inl p1)]) (st' := []) (w' := (SH, dt)) rfl (c_lt (a := p1) (b := 65) (by first | exact bnd h_p1 (by decide) (by decide) | exact ⟨by fail, by fail⟩) ⟨by decide, by decide⟩) (fun c5 => ?_) (fun c5 => ?_)
      · exfalso; omega
      · skip
        refine go_ifq PM13 (k := 2) (p1 := 28) (p2 := 24) (L' := [some (.inl p1)]) (st' := []) (w' := (SH, dt)) rfl (c_gt (a := p1) (b := 90) (by first | exact bnd h_p1 (by decide) (by decide) | exact ⟨by fail, by fail⟩) ⟨by decide, by decide⟩) (fun c6 => ?_) (fun c6 => ?_)
        · skip
          refine go_retq PM13 (k := 1) (r := some (.inl 0)) (w1 := (SH, dt)) rfl ?_
          exact ⟨rfl, ⟨_, rfl, ⟨by decide, by decide⟩, by first | exact True.intro | with_reducible assumption | rfl | omega | trivial⟩⟩
        · exfalso; omega
theorem sp_X1_runEnd_f (L : Nat) (xs : Nat → Int32) (sio : Option Nat) (d : Nat) (dt : Nat → Nat → Int) (hI : InvC dt)  (p1 : Int) (h_p1 : 0 ≤ p1 ∧ p1 ≤ 499) (h_p0 : p1 < dt 35 1) : GO (am_XX L xs sio) (d + 1) 14 0 [some (.inr (.inr (some 35))), some (.inl p1), none] [] (SH, dt) (fun r w2 => w2 = (SH, dt) ∧ ((∃ v : Int, r = some (.inl v) ∧ (1 ≤ v ∧ v ≤ 500) ∧ (v = ((TE (mB (fun j => am_and (dt 36 j) 255) (dt 35 1)) (dt 35 1).toNat p1.toNat : Nat) : Int)) ∧ (p1 + 1 ≤ v) ∧ (v ≤ dt 35 1)))) := by
  have r1 : 0 ≤ dt 35 1 ∧ dt 35 1 ≤ 500 := InvC_get hI 35 1 rfl rfl
  refine go_toq PM14 (k := 6) (pc' := 6) (L' := [some (.inr (.inr (some 35))), some (.inl p1), some (.inl (p1 + 1))]) (st' := [.inl p1, .inr (.inr (some 35))]) (w' := (SH, dt)) rfl ?_
  refine go_callq PM14 PM10 (Q' := _) rfl rfl rfl rfl (sp_X1_byteAt_f L xs sio (d + 0) dt hI  p1 (by first | exact h_p1 | exact bnd h_p1 (by decide) (by decide) | exact ⟨by fail, by fail⟩) ) ?_
  rintro _ _ ⟨rfl, h2⟩
  refine ⟨rfl, ?_⟩
  rcases h2 with ⟨v_h2, rfl, h2r, h2⟩
  refine go_callq PM14 PM13 (Q' := _) rfl rfl rfl rfl (sp_X1_isLetter_f L xs sio (d + 0) dt hI  v_h2 (by first | exact bnd h2r (by decide) (by decide) | exact ⟨by fail, by fail⟩) ) ?_
  rintro _ _ ⟨rfl, h3⟩
  refine ⟨rfl, ?_⟩
  rcases h3 with ⟨v_h3, rfl, h3r, h3⟩
  refine go_ifq PM14 (k := 0) (p1 := 40) (p2 := 15) (L' := [some (.inr (.inr (some 35))), some (.inl p1), some (.inl (p1 + 1))]) (st' := []) (w' := (SH, dt)) rfl (z_eq (a := v_h3) (by first | exact bnd h3r (by decide) (by decide) | exact ⟨by fail, by fail⟩)) (fun c4 => ?_) (fun c4 => ?_)
  · skip
    refine go_toq PM14 (k := 2) (pc' := 42) (L' := [some (.inr (.inr (some 35))), some (.inl p1), some (.inl (p1 + 1))]) (st' := [.inl p1, .inr (.inr (some 35))]) (w' := (SH, dt)) rfl ?_
    refine go_callq PM14 PM10 (Q' := _) rfl rfl rfl rfl (sp_X1_byteAt_f L xs sio (d + 0) dt hI  p1 (by first | exact h_p1 | exact bnd h_p1 (by decide) (by decide) | exact ⟨by fail, by fail⟩) ) ?_
    rintro _ _ ⟨rfl, h5⟩
    refine ⟨rfl, ?_⟩
    rcases h5 with ⟨v_h5, rfl, h5r, h5⟩
    refine go_callq PM14 PM12 (Q' := _) rfl rfl rfl rfl (sp_X1_isDigit_f L xs sio (d + 0) dt hI  v_h5 (by first | exact bnd h5r (by decide) (by decide) | exact ⟨by fail, by fail⟩) ) ?_
    rintro _ _ ⟨rfl, h6⟩
    refine ⟨rfl, ?_⟩
    rcases h6 with ⟨v_h6, rfl, h6r, h6⟩
    refine go_ifq PM14 (k := 0) (p1 := 76) (p2 := 51) (L' := [some (.inr (.inr (some 35))), some (.inl p1), some (.inl (p1 + 1))]) (st' := []) (w' := (SH, dt)) rfl (z_eq (a := v_h6) (by first | exact bnd h6r (by decide) (by decide) | exact ⟨by fail, by fail⟩)) (fun c7 => ?_) (fun c7 => ?_)
    · skip
      refine go_retq PM14 (k := 1) (r := some (.inl (p1 + 1))) (w1 := (SH, dt)) rfl ?_
      exact ⟨rfl, ⟨_, rfl, (by first | exact bndp h_p1 (by decide) (by decide) | exact ⟨by fail, by fail⟩), ⟨by first | exact TE_l (by omega) (pLt h5 (by fail)) (by assumption) (by fail) (.inl (by fail)) | exact TE_l (by omega) (pLt h5 (by fail)) (by assumption) (by fail) (.inr (pLf h5 (by fail))) | exact TE_d (by omega) (pLf h5 (by omega)) (pDt h5 (by fail)) (by assumption) (by fail) (.inl (by fail)) | exact TE_d (by omega) (pLf h5 (by omega)) (pDt h5 (by fail)) (by assumption) (by fail) (.inr (pDf h5 (by fail))) | exact TE_1 (by omega) (pLf h5 (by omega)) (pDf h5 (by omega)), by first | exact True.intro | with_reducible assumption | rfl | omega | trivial, by first | exact True.intro | with_reducible assumption | rfl | omega | trivial⟩⟩⟩
    · skip
      replace c7 := hid c7
      have loop17 : ∀ (k_ : Nat) (l51_2 : Int) (i13 : 1 ≤ l51_2 ∧ l51_2 ≤ 500) (i14 : RN pD (mB (fun j => am_and (dt 36 j) 255) (dt 35 1)) (dt 35 1).toNat (p1 + 1).toNat = RN pD (mB (fun j => am_and (dt 36 j) 255) (dt 35 1)) (dt 35 1).toNat (l51_2).toNat) (i15 : l51_2 ≤ dt 35 1) (i16 : p1 + 1 ≤ l51_2), (501 - l51_2).toNat < k_ → GO (am_XX L xs sio) (d + 1) 14 51 [some (.inr (.inr (some 35))), none, some (.inl l51_2)] [] (SH, dt) (fun r w2 => w2 = (SH, dt) ∧ ((∃ v : Int, r = some (.inl v) ∧ (1 ≤ v ∧ v ≤ 500) ∧ (v = ((TE (mB (fun j => am_and (dt 36 j) 255) (dt 35 1)) (dt 35 1).toNat p1.toNat : Nat) : Int)) ∧ (p1 + 1 ≤ v) ∧ (v ≤ dt 35 1)))) := by
        intro k_
        induction k_ with
        | zero => intro l51_2 i13 i14 i15 i16 hm; exact absurd hm (Nat.not_lt_zero _)
        | succ k_ ih_loop17 =>
          intro l51_2 i13 i14 i15 i16 hm
          refine go_ifq PM14 (k := 3) (p1 := 76) (p2 := 59) (L' := [some (.inr (.inr (some 35))), none, some (.inl l51_2)]) (st' := []) (w' := (SH, dt)) rfl (c_ge (a := l51_2) (b := dt 35 1) (by first | exact bnd i13 (by decide) (by decide) | exact ⟨by fail, by fail⟩) (by first | exact bnd r1 (by decide) (by decide) | exact ⟨by fail, by fail⟩)) (fun c18 => ?_) (fun c18 => ?_)
          · skip
            refine go_retq PM14 (k := 1) (r := some (.inl l51_2)) (w1 := (SH, dt)) rfl ?_
            exact ⟨rfl, ⟨_, rfl, (by first | exact bnd i13 (by decide) (by decide) | exact ⟨by fail, by fail⟩), ⟨by first | exact TE_l (by omega) (pLt h5 (by fail)) (by assumption) (by fail) (.inl (by fail)) | exact TE_l (by omega) (pLt h5 (by fail)) (by assumption) (by fail) (.inr (pLf h5 (by fail))) | exact TE_d (by omega) (pLf h5 (by omega)) (pDt h5 (by (have z0_ := unhid c7; omega))) (by assumption) (by omega) (.inl (by omega)) | exact TE_d (by fail) (pLf h5 (by fail)) (pDt h5 (by fail)) (by assumption) (by fail) (.inr (pDf h5 (by fail))) | exact TE_1 (by fail) (pLf h5 (by fail)) (pDf h5 (by fail)), by first | exact True.intro | with_reducible assumption | exact unhid (by with_reducible assumption) | rfl | fail | trivial, by first | exact True.intro | with_reducible assumption | exact unhid (by with_reducible assumption) | rfl | fail | trivial⟩⟩⟩
          · skip
            refine go_toq PM14 (k := 2) (pc' := 61) (L' := [some (.inr (.inr (some 35))), none, some (.inl l51_2)]) (st' := [.inl l51_2, .inr (.inr (some 35))]) (w' := (SH, dt)) rfl ?_
            refine go_callq PM14 PM10 (Q' := _) rfl rfl rfl rfl (sp_X1_byteAt_f L xs sio (d + 0) dt hI  l51_2 (by first | exact bnd i13 (by decide) (by decide) | exact bndd i13 c18 (by decide) (by decide) | exact ⟨by fail, by fail⟩) ) ?_
            rintro _ _ ⟨rfl, h19⟩
            refine ⟨rfl, ?_⟩
            rcases h19 with ⟨v_h19, rfl, h19r, h19⟩
            refine go_callq PM14 PM12 (Q' := _) rfl rfl rfl rfl (sp_X1_isDigit_f L xs sio (d + 0) dt hI  v_h19 (by first | exact bnd h19r (by decide) (by decide) | exact ⟨by fail, by fail⟩) ) ?_
            rintro _ _ ⟨rfl, h20⟩
            refine ⟨rfl, ?_⟩
            rcases h20 with ⟨v_h20, rfl, h20r, h20⟩
            refine go_ifq PM14 (k := 0) (p1 := 76) (p2 := 70) (L' := [some (.inr (.inr (some 35))), none, some (.inl l51_2)]) (st' := []) (w' := (SH, dt)) rfl (z_eq (a := v_h20) (by first | exact bnd h20r (by decide) (by decide) | exact ⟨by fail, by fail⟩)) (fun c21 => ?_) (fun c21 => ?_)
            · skip
              refine go_retq PM14 (k := 1) (r := some (.inl l51_2)) (w1 := (SH, dt)) rfl ?_
              exact ⟨rfl, ⟨_, rfl, (by first | exact bnd i13 (by decide) (by decide) | exact bndd i13 c18 (by decide) (by decide) | exact ⟨by fail, by fail⟩), ⟨by first | exact TE_l (by omega) (pLt h5 (by fail)) (by assumption) (by fail) (.inl (by fail)) | exact TE_l (by omega) (pLt h5 (by fail)) (by assumption) (by fail) (.inr (pLf h19 (by fail))) | exact TE_d (by omega) (pLf h5 (by omega)) (pDt h5 (by (have z0_ := unhid c7; omega))) (by assumption) (by omega) (.inl (by fail)) | exact TE_d (by omega) (pLf h5 (by omega)) (pDt h5 (by (have z0_ := unhid c7; omega))) (by assumption) (by omega) (.inr (pDf h19 (by omega))) | exact TE_1 (by fail) (pLf h5 (by fail)) (pDf h5 (by fail)), by first | exact True.intro | with_reducible assumption | exact unhid (by with_reducible assumption) | rfl | fail | trivial, by first | exact True.intro | with_reducible assumption | exact unhid (by with_reducible assumption) | rfl | fail | trivial⟩⟩⟩
            · skip
              replace c21 := hid c21
              refine go_toq PM14 (k := 2) (pc' := 51) (L' := [some (.inr (.inr (some 35))), none, some (.inl (l51_2 + 1))]) (st' := []) (w' := (SH, dt)) rfl ?_
              exact GO.le (ih_loop17 (l51_2 + 1) (by first | omega | rfl | exact RN_st (by assumption) (by fail) (by fail) (pDt h19 (by fail))) (by first | fail | rfl | exact RN_st (by assumption) (by omega) (by omega) (pDt h19 (by (have z0_ := unhid c7; have z1_ := unhid c21; omega)))) (by first | omega | rfl | exact RN_st (by assumption) (by fail) (by fail) (pDt h19 (by fail))) (by first | omega | rfl | exact RN_st (by assumption) (by fail) (by fail) (pDt h19 (by fail))) (by omega)) ⟨.inl rfl, .inl rfl, .inl rfl, trivial⟩
      exact GO.le (loop17 _ (p1 + 1) (by first | omega | rfl | exact RN_st (by assumption) (by fail) (by fail) (pDt h5 (by fail))) (by first | omega | rfl | exact RN_st (by assumption) (by fail) (by fail) (pDt h5 (by fail))) (by first | omega | rfl | exact RN_st (by assumption) (by fail) (by fail) (pDt h5 (by fail))) (by first | omega | rfl | exact RN_st (by assumption) (by fail) (by fail) (pDt h5 (by fail))) (Nat.lt_succ_self _)) ⟨.inl rfl, .inr ⟨rfl, trivial⟩, .inl rfl, trivial⟩
  · skip
    replace c4 := hid c4
    have loop31 : ∀ (k_ : Nat) (l15_2 : Int) (i27 : 1 ≤ l15_2 ∧ l15_2 ≤ 500) (i28 : RN pL (mB (fun j => am_and (dt 36 j) 255) (dt 35 1)) (dt 35 1).toNat (p1 + 1).toNat = RN pL (mB (fun j => am_and (dt 36 j) 255) (dt 35 1)) (dt 35 1).toNat (l15_2).toNat) (i29 : l15_2 ≤ dt 35 1) (i30 : p1 + 1 ≤ l15_2), (501 - l15_2).toNat < k_ → GO (am_XX L xs sio) (d + 1) 14 15 [some (.inr (.inr (some 35))), none, some (.inl l15_2)] [] (SH, dt) (fun r w2 => w2 = (SH, dt) ∧ ((∃ v : Int, r = some (.inl v) ∧ (1 ≤ v ∧ v ≤ 500) ∧ (v = ((TE (mB (fun j => am_and (dt 36 j) 255) (dt 35 1)) (dt 35 1).toNat p1.toNat : Nat) : Int)) ∧ (p1 + 1 ≤ v) ∧ (v ≤ dt 35 1)))) := by
      intro k_
      induction k_ with
      | zero => intro l15_2 i27 i28 i29 i30 hm; exact absurd hm (Nat.not_lt_zero _)
      | succ k_ ih_loop31 =>
        intro l15_2 i27 i28 i29 i30 hm
        refine go_ifq PM14 (k := 3) (p1 := 76) (p2 := 23) (L' := [some (.inr (.inr (some 35))), none, some (.inl l15_2)]) (st' := []) (w' := (SH, dt)) rfl (c_ge (a := l15_2) (b := dt 35 1) (by first | exact bnd i27 (by decide) (by decide) | exact ⟨by fail, by fail⟩) (by first | exact bnd r1 (by decide) (by decide) | exact ⟨by fail, by fail⟩)) (fun c32 => ?_) (fun c32 => ?_)
        · skip
          refine go_retq PM14 (k := 1) (r := some (.inl l15_2)) (w1 := (SH, dt)) rfl ?_
          exact ⟨rfl, ⟨_, rfl, (by first | exact bnd i27 (by decide) (by decide) | exact ⟨by fail, by fail⟩), ⟨by first | exact TE_l (by omega) (pLt h2 (by (have z0_ := unhid c4; omega))) (by assumption) (by omega) (.inl (by omega)) | exact TE_l (by fail) (pLt h2 (by fail)) (by assumption) (by fail) (.inr (pLf h2 (by fail))) | exact TE_d (by fail) (pLf h2 (by fail)) (pDt h2 (by fail)) (by assumption) (by fail) (.inl (by fail)) | exact TE_d (by fail) (pLf h2 (by fail)) (pDt h2 (by fail)) (by assumption) (by fail) (.inr (pDf h2 (by fail))) | exact TE_1 (by fail) (pLf h2 (by fail)) (pDf h2 (by fail)), by first | exact True.intro | with_reducible assumption | exact unhid (by with_reducible assumption) | rfl | fail | trivial, by first | exact True.intro | with_reducible assumption | exact unhid (by with_reducible assumption) | rfl | fail | trivial⟩⟩⟩
        · skip
          refine go_toq PM14 (k := 2) (pc' := 25) (L' := [some (.inr (.inr (some 35))), none, some (.inl l15_2)]) (st' := [.inl l15_2, .inr (.inr (some 35))]) (w' := (SH, dt)) rfl ?_
          refine go_callq PM14 PM10 (Q' := _) rfl rfl rfl rfl (sp_X1_byteAt_f L xs sio (d + 0) dt hI  l15_2 (by first | exact bnd i27 (by decide) (by decide) | exact bndd i27 c32 (by decide) (by decide) | exact ⟨by fail, by fail⟩) ) ?_
          rintro _ _ ⟨rfl, h33⟩
          refine ⟨rfl, ?_⟩
          rcases h33 with ⟨v_h33, rfl, h33r, h33⟩
          refine go_callq PM14 PM13 (Q' := _) rfl rfl rfl rfl (sp_X1_isLetter_f L xs sio (d + 0) dt hI  v_h33 (by first | exact bnd h33r (by decide) (by decide) | exact ⟨by fail, by fail⟩) ) ?_
          rintro _ _ ⟨rfl, h34⟩
          refine ⟨rfl, ?_⟩
          rcases h34 with ⟨v_h34, rfl, h34r, h34⟩
          refine go_ifq PM14 (k := 0) (p1 := 76) (p2 := 34) (L' := [some (.inr (.inr (some 35))), none, some (.inl l15_2)]) (st' := []) (w' := (SH, dt)) rfl (z_eq (a := v_h34) (by first | exact bnd h34r (by decide) (by decide) | exact ⟨by fail, by fail⟩)) (fun c35 => ?_) (fun c35 => ?_)
          · skip
            refine go_retq PM14 (k := 1) (r := some (.inl l15_2)) (w1 := (SH, dt)) rfl ?_
            exact ⟨rfl, ⟨_, rfl, (by first | exact bnd i27 (by decide) (by decide) | exact bndd i27 c32 (by decide) (by decide) | exact ⟨by fail, by fail⟩), ⟨by first | exact TE_l (by omega) (pLt h2 (by (have z0_ := unhid c4; omega))) (by assumption) (by omega) (.inl (by fail)) | exact TE_l (by omega) (pLt h2 (by (have z0_ := unhid c4; omega))) (by assumption) (by omega) (.inr (pLf h33 (by omega))) | exact TE_d (by fail) (pLf h2 (by fail)) (pDt h2 (by fail)) (by assumption) (by fail) (.inl (by fail)) | exact TE_d (by fail) (pLf h2 (by fail)) (pDt h2 (by fail)) (by assumption) (by fail) (.inr (pDf h33 (by fail))) | exact TE_1 (by fail) (pLf h2 (by fail)) (pDf h2 (by fail)), by first | exact True.intro | with_reducible assumption | exact unhid (by with_reducible assumption) | rfl | fail | trivial, by first | exact True.intro | with_reducible assumption | exact unhid (by with_reducible assumption) | rfl | fail | trivial⟩⟩⟩
          · skip
            replace c35 := hid c35
            refine go_toq PM14 (k := 2) (pc' := 15) (L' := [some (.inr (.inr (some 35))), none, some (.inl (l15_2 + 1))]) (st' := []) (w' := (SH, dt)) rfl ?_
            exact GO.le (ih_loop31 (l15_2 + 1) (by first | omega | rfl | exact RN_st (by assumption) (by fail) (by fail) (pLt h33 (by fail))) (by first | fail | rfl | exact RN_st (by assumption) (by omega) (by omega) (pLt h33 (by (have z0_ := unhid c4; have z1_ := unhid c35; omega)))) (by first | omega | rfl | exact RN_st (by assumption) (by fail) (by fail) (pLt h33 (by fail))) (by first | omega | rfl | exact RN_st (by assumption) (by fail) (by fail) (pLt h33 (by fail))) (by omega)) ⟨.inl rfl, .inl rfl, .inl rfl, trivial⟩
    exact GO.le (loop31 _ (p1 + 1) (by first | omega | rfl | exact RN_st (by assumption) (by fail) (by fail) (pLt h2 (by fail))) (by first | omega | rfl | exact RN_st (by assumption) (by fail) (by fail) (pLt h2 (by fail))) (by first | omega | rfl | exact RN_st (by assumption) (by fail) (by fail) (pLt h2 (by fail))) (by first | omega | rfl | exact RN_st (by assumption) (by fail) (by fail) (pLt h2 (by fail))) (Nat.lt_succ_self _)) ⟨.inl rfl, .inr ⟨rfl, trivial⟩, .inl rfl, trivial⟩
theorem sp_X1_numberOf_f (L : Nat) (xs : Nat → Int32) (sio : Option Nat) (d : Nat) (dt : Nat → Nat → Int) (hI : InvC dt)  (p1 : Int) (h_p1 : 0 ≤ p1 ∧ p1 ≤ 499) (p2 : Int) (h_p2 : 1 ≤ p2 ∧ p2 ≤ 500) (h_p0 : p1 ≤ p2) : GO (am_XX L xs sio) (d + 1) 17 0 [some (.inr (.inr (some 35))), some (.inl p1), some (.inl p2), none, none] [] (SH, dt) (fun r w2 => w2 = (SH, dt) ∧ ((∃ v : Int, r = some (.inl v) ∧ True ∧ (p2 - p1 ≤ 4 → v = nv (mB (fun j => am_and (dt 36 j) 255) (dt 35 1)) p1.toNat (p2 - p1).toNat)))) := by
  have r1 : 0 ≤ dt 35 1 ∧ dt 35 1 ≤ 500 := InvC_get hI 35 1 rfl rfl
  refine go_toq PM17 (k := 4) (pc' := 5) (L' := [some (.inr (.inr (some 35))), some (.inl p1), some (.inl p2), some (.inl 0), some (.inl p1)]) (st' := []) (w' := (SH, dt)) rfl ?_
  have loop11 : ∀ (k_ : Nat) (l5_3 : Int) (l5_4 : Int) (i6 : 0 ≤ l5_4 ∧ l5_4 ≤ 500) (i7 : l5_3 = nv (mB (fun j => am_and (dt 36 j) 255) (dt 35 1)) p1.toNat (l5_4 - p1).toNat) (i8 : p1 ≤ l5_4) (i9 : l5_4 ≤ p2) (i10 : l5_4 ≤ p1 + 4), (501 - l5_4).toNat < k_ → GO (am_XX L xs sio) (d + 1) 17 5 [some (.inr (.inr (some 35))), some (.inl p1), some (.inl p2), some (.inl l5_3), some (.inl l5_4)] [] (SH, dt) (fun r w2 => w2 = (SH, dt) ∧ ((∃ v : Int, r = some (.inl v) ∧ True ∧ (p2 - p1 ≤ 4 → v = nv (mB (fun j => am_and (dt 36 j) 255) (dt 35 1)) p1.toNat (p2 - p1).toNat)))) := by
    intro k_
    induction k_ with
    | zero => intro l5_3 l5_4 i6 i7 i8 i9 i10 hm; exact absurd hm (Nat.not_lt_zero _)
    | succ k_ ih_loop11 =>
      intro l5_3 l5_4 i6 i7 i8 i9 i10 hm
      have q1 := i7
      refine go_ifq PM17 (k := 2) (p1 := 40) (p2 := 11) (L' := [some (.inr (.inr (some 35))), some (.inl p1), some (.inl p2), some (.inl l5_3), some (.inl l5_4)]) (st' := []) (w' := (SH, dt)) rfl (c_ge (a := l5_4) (b := p2) (by first | exact bnd i6 (by decide) (by decide) | exact ⟨by fail, by fail⟩) (by first | exact bnd h_p2 (by decide) (by decide) | exact ⟨by fail, by fail⟩)) (fun c12 => ?_) (fun c12 => ?_)
      · skip
        refine go_retq PM17 (k := 1) (r := some (.inl l5_3)) (w1 := (SH, dt)) rfl ?_
        exact ⟨rfl, ⟨_, rfl, trivial, by intro z; have e : l5_4 = p2 := (by omega); rw [← e]; exact q1⟩⟩
      · skip
        refine go_ifq PM17 (k := 4) (p1 := 40) (p2 := 19) (L' := [some (.inr (.inr (some 35))), some (.inl p1), some (.inl p2), some (.inl l5_3), some (.inl l5_4)]) (st' := []) (w' := (SH, dt)) rfl (c_ge (a := l5_4) (b := p1 + 4) (by first | exact bnd i6 (by decide) (by decide) | exact bndd i6 c12 (by decide) (by decide) | exact ⟨by fail, by fail⟩) (by first | exact bndp h_p1 (by decide) (by decide) | exact ⟨by fail, by fail⟩)) (fun c13 => ?_) (fun c13 => ?_)
        · skip
          refine go_retq PM17 (k := 1) (r := some (.inl l5_3)) (w1 := (SH, dt)) rfl ?_
          exact ⟨rfl, ⟨_, rfl, trivial, by intro z; have e : l5_4 = p2 := (by omega); rw [← e]; exact q1⟩⟩
        · skip
          refine go_toq PM17 (k := 5) (pc' := 26) (L' := [some (.inr (.inr (some 35))), some (.inl p1), some (.inl p2), some (.inl l5_3), some (.inl l5_4)]) (st' := [.inl l5_4, .inr (.inr (some 35)), .inl (10 * l5_3)]) (w' := (SH, dt)) rfl ?_
          refine go_callq PM17 PM10 (Q' := _) rfl rfl rfl rfl (sp_X1_byteAt_f L xs sio (d + 0) dt hI  l5_4 (by first | exact bnd i6 (by decide) (by decide) | exact bndd i6 c13 (by decide) (by decide) | exact ⟨by fail, by fail⟩) ) ?_
          rintro _ _ ⟨rfl, h14⟩
          refine ⟨rfl, ?_⟩
          rcases h14 with ⟨v_h14, rfl, h14r, h14⟩
          refine go_toq PM17 (k := 6) (pc' := 5) (L' := [some (.inr (.inr (some 35))), some (.inl p1), some (.inl p2), some (.inl (((10 * l5_3) + v_h14) - 48)), some (.inl (l5_4 + 1))]) (st' := []) (w' := (SH, dt)) rfl ?_
          exact GO.le (ih_loop11 (((10 * l5_3) + v_h14) - 48) (l5_4 + 1) (by first | omega | (rw [Int.sub_self]; rfl) | exact nv_st (by assumption) h14 (by fail) (by fail)) (by first | fail | (rw [Int.sub_self]; rfl) | exact nv_st (by assumption) h14 (by omega) (by omega)) (by first | omega | (rw [Int.sub_self]; rfl) | exact nv_st (by assumption) h14 (by fail) (by fail)) (by first | omega | (rw [Int.sub_self]; rfl) | exact nv_st (by assumption) h14 (by fail) (by fail)) (by first | omega | (rw [Int.sub_self]; rfl) | exact nv_st (by assumption) h14 (by fail) (by fail)) (by omega)) ⟨.inl rfl, .inl rfl, .inl rfl, .inl rfl, .inl rfl, trivial⟩
  exact GO.le (loop11 _ 0 p1 (by first | omega | (rw [Int.sub_self]; rfl) | exact nv_st (by assumption) hI (by fail) (by fail)) (by first | fail | (rw [Int.sub_self]; rfl) | exact nv_st (by assumption) hI (by fail) (by fail)) (by first | omega | (rw [Int.sub_self]; rfl) | exact nv_st (by assumption) hI (by fail) (by fail)) (by first | omega | (rw [Int.sub_self]; rfl) | exact nv_st (by assumption) hI (by fail) (by fail)) (by first | omega | (rw [Int.sub_self]; rfl) | exact nv_st (by assumption) hI (by fail) (by fail)) (Nat.lt_succ_self _)) ⟨.inl rfl, .inl rfl, .inl rfl, .inl rfl, .inl rfl, trivial⟩
theorem sp_J1_charAt_3b067_0f (L : Nat) (xs : Nat → Int32) (sio : Option Nat) (d : Nat) (dt : Nat → Nat → Int) (hI : InvC dt)  (p2 : Int) (h_p2 : 0 ≤ p2 ∧ p2 ≤ 44)  : GO (am_XX L xs sio) (d + 2) 256 0 [some (.inr (.inr (some 2000))), some (.inl p2)] [] (SH, dt) (fun r w2 => w2 = (SH, dt) ∧ ((∃ v : Int, r = some (.inl v) ∧ (0 ≤ v ∧ v ≤ 65535) ∧ (v = (am_Sby.getD 0 []).getD p2.toNat 0)))) := by
  refine go_toq PM256 (k := 3) (pc' := 3) (L' := [some (.inr (.inr (some 2000))), some (.inl p2)]) (st' := [.inl 45, .inl p2]) (w' := (SH, dt)) rfl ?_
  refine go_callq PM256 PM255 (Q' := _) rfl rfl rfl rfl (sp_J0_checkIndex_df160 L xs sio (d + 0) dt hI  p2 (by first | exact h_p2 | exact bnd h_p2 (by decide) (by decide) | exact ⟨by fail, by fail⟩) 45 ⟨by decide, by decide⟩ (by first | exact True.intro | with_reducible assumption | rfl | omega | trivial)) ?_
  rintro _ _ ⟨rfl, h1⟩
  refine ⟨rfl, ?_⟩
  rcases h1 with ⟨rfl, h1⟩
  refine go_toq PM256 (k := 2) (pc' := 8) (L' := [some (.inr (.inr (some 2000))), some (.inl p2)]) (st' := [.inl p2, .inr (.inr (some 2000))]) (w' := (SH, dt)) rfl ?_
  have r2 := sby_R 0 (p2).toNat
  refine go_smpq PM256 (L' := [some (.inr (.inr (some 2000))), some (.inl p2)]) (st' := [.inl ((am_Sby.getD 0 []).getD (p2).toNat 0)]) (w' := (SH, dt)) rfl rfl (s_bald (n := 45) (f := fun q => (am_Sby.getD 0 []).getD q 0) rfl (by first | exact bndx h_p2 (by decide) (by decide) | exact ⟨by fail, by fail⟩)) ?_
  have r3 : 0 ≤ am_and ((am_Sby.getD 0 []).getD (p2).toNat 0) 255 ∧ am_and ((am_Sby.getD 0 []).getD (p2).toNat 0) 255 ≤ 255 := and_R255
  have r4 := i2c_R (am_and ((am_Sby.getD 0 []).getD (p2).toNat 0) 255)
  refine go_toq PM256 (k := 3) (pc' := 14) (L' := [some (.inr (.inr (some 2000))), some (.inl p2)]) (st' := [.inl (am_i2c (am_and ((am_Sby.getD 0 []).getD (p2).toNat 0) 255))]) (w' := (SH, dt)) rfl ?_
  refine go_retvq PM256 (v := am_i2c (am_and ((am_Sby.getD 0 []).getD (p2).toNat 0) 255)) rfl (decide_eq_true (show 0 ≤ am_i2c (am_and ((am_Sby.getD 0 []).getD (p2).toNat 0) 255) ∧ am_i2c (am_and ((am_Sby.getD 0 []).getD (p2).toNat 0) 255) < 65536 by omega)) ?_
  exact ⟨rfl, ⟨_, rfl, ⟨by omega, by omega⟩, by exact ic_id ⟨by omega, by omega⟩⟩⟩
theorem sp_J0_charAt_5068e_0f (L : Nat) (xs : Nat → Int32) (sio : Option Nat) (d : Nat) (dt : Nat → Nat → Int) (hI : InvC dt)  (p1 : Int) (h_p1 : 0 ≤ p1 ∧ p1 ≤ 44)  : GO (am_XX L xs sio) (d + 3) 250 0 [some (.inr (.inr (some 1000))), some (.inl p1)] [] (SH, dt) (fun r w2 => w2 = (SH, dt) ∧ ((∃ v : Int, r = some (.inl v) ∧ (0 ≤ v ∧ v ≤ 65535) ∧ (v = (am_Sby.getD 0 []).getD p1.toNat 0)))) := by
  refine go_toq PM250 (k := 1) (pc' := 1) (L' := [some (.inr (.inr (some 1000))), some (.inl p1)]) (st' := [.inr (.inr (some 1000))]) (w' := (SH, dt)) rfl ?_
  refine go_callq PM250 PM254 (Q' := _) rfl rfl rfl rfl (sp_J0_isLatin1_aae02_1000 L xs sio (d + 2) dt hI   ) ?_
  rintro _ _ ⟨rfl, h1⟩
  refine ⟨rfl, ?_⟩
  rcases h1 with ⟨rfl, h1⟩
  refine go_toq PM250 (k := 4) (pc' := 12) (L' := [some (.inr (.inr (some 1000))), some (.inl p1)]) (st' := [.inl p1, .inr (.inr (some 2000))]) (w' := (SH, dt)) rfl ?_
  refine go_callq PM250 PM256 (Q' := _) rfl rfl rfl rfl (sp_J1_charAt_3b067_0f L xs sio (d + 0) dt hI  p1 (by first | exact h_p1 | exact bnd h_p1 (by decide) (by decide) | exact ⟨by fail, by fail⟩) ) ?_
  rintro _ _ ⟨rfl, h2⟩
  refine ⟨rfl, ?_⟩
  rcases h2 with ⟨v_h2, rfl, h2r, h2⟩
  refine go_retvq PM250 (v := v_h2) rfl (decide_eq_true (show 0 ≤ v_h2 ∧ v_h2 < 65536 by omega)) ?_
  exact ⟨rfl, ⟨_, rfl, ⟨by omega, by omega⟩, by first | exact True.intro | with_reducible assumption | rfl | fail | trivial⟩⟩
theorem sp_J1_charAt_3b067_1f (L : Nat) (xs : Nat → Int32) (sio : Option Nat) (d : Nat) (dt : Nat → Nat → Int) (hI : InvC dt)  (p2 : Int) (h_p2 : 0 ≤ p2 ∧ p2 ≤ 61)  : GO (am_XX L xs sio) (d + 2) 256 0 [some (.inr (.inr (some 2001))), some (.inl p2)] [] (SH, dt) (fun r w2 => w2 = (SH, dt) ∧ ((∃ v : Int, r = some (.inl v) ∧ (0 ≤ v ∧ v ≤ 65535) ∧ (v = (am_Sby.getD 1 []).getD p2.toNat 0)))) := by
  refine go_toq PM256 (k := 3) (pc' := 3) (L' := [some (.inr (.inr (some 2001))), some (.inl p2)]) (st' := [.inl 62, .inl p2]) (w' := (SH, dt)) rfl ?_
  refine go_callq PM256 PM255 (Q' := _) rfl rfl rfl rfl (sp_J0_checkIndex_df160 L xs sio (d + 0) dt hI  p2 (by first | exact h_p2 | exact bnd h_p2 (by decide) (by decide) | exact ⟨by fail, by fail⟩) 62 ⟨by decide, by decide⟩ (by first | exact True.intro | with_reducible assumption | rfl | omega | trivial)) ?_
  rintro _ _ ⟨rfl, h1⟩
  refine ⟨rfl, ?_⟩
  rcases h1 with ⟨rfl, h1⟩
  refine go_toq PM256 (k := 2) (pc' := 8) (L' := [some (.inr (.inr (some 2001))), some (.inl p2)]) (st' := [.inl p2, .inr (.inr (some 2001))]) (w' := (SH, dt)) rfl ?_
  have r2 := sby_R 1 (p2).toNat
  refine go_smpq PM256 (L' := [some (.inr (.inr (some 2001))), some (.inl p2)]) (st' := [.inl ((am_Sby.getD 1 []).getD (p2).toNat 0)]) (w' := (SH, dt)) rfl rfl (s_bald (n := 62) (f := fun q => (am_Sby.getD 1 []).getD q 0) rfl (by first | exact bndx h_p2 (by decide) (by decide) | exact ⟨by fail, by fail⟩)) ?_
  have r3 : 0 ≤ am_and ((am_Sby.getD 1 []).getD (p2).toNat 0) 255 ∧ am_and ((am_Sby.getD 1 []).getD (p2).toNat 0) 255 ≤ 255 := and_R255
  have r4 := i2c_R (am_and ((am_Sby.getD 1 []).getD (p2).toNat 0) 255)
  refine go_toq PM256 (k := 3) (pc' := 14) (L' := [some (.inr (.inr (some 2001))), some (.inl p2)]) (st' := [.inl (am_i2c (am_and ((am_Sby.getD 1 []).getD (p2).toNat 0) 255))]) (w' := (SH, dt)) rfl ?_
  refine go_retvq PM256 (v := am_i2c (am_and ((am_Sby.getD 1 []).getD (p2).toNat 0) 255)) rfl (decide_eq_true (show 0 ≤ am_i2c (am_and ((am_Sby.getD 1 []).getD (p2).toNat 0) 255) ∧ am_i2c (am_and ((am_Sby.getD 1 []).getD (p2).toNat 0) 255) < 65536 by omega)) ?_
  exact ⟨rfl, ⟨_, rfl, ⟨by omega, by omega⟩, by exact ic_id ⟨by omega, by omega⟩⟩⟩
theorem sp_J0_charAt_5068e_1f (L : Nat) (xs : Nat → Int32) (sio : Option Nat) (d : Nat) (dt : Nat → Nat → Int) (hI : InvC dt)  (p1 : Int) (h_p1 : 0 ≤ p1 ∧ p1 ≤ 61)  : GO (am_XX L xs sio) (d + 3) 250 0 [some (.inr (.inr (some 1001))), some (.inl p1)] [] (SH, dt) (fun r w2 => w2 = (SH, dt) ∧ ((∃ v : Int, r = some (.inl v) ∧ (0 ≤ v ∧ v ≤ 65535) ∧ (v = (am_Sby.getD 1 []).getD p1.toNat 0)))) := by
  refine go_toq PM250 (k := 1) (pc' := 1) (L' := [some (.inr (.inr (some 1001))), some (.inl p1)]) (st' := [.inr (.inr (some 1001))]) (w' := (SH, dt)) rfl ?_
  refine go_callq PM250 PM254 (Q' := _) rfl rfl rfl rfl (sp_J0_isLatin1_aae02_1001 L xs sio (d + 2) dt hI   ) ?_
  rintro _ _ ⟨rfl, h1⟩
  refine ⟨rfl, ?_⟩
  rcases h1 with ⟨rfl, h1⟩
  refine go_toq PM250 (k := 4) (pc' := 12) (L' := [some (.inr (.inr (some 1001))), some (.inl p1)]) (st' := [.inl p1, .inr (.inr (some 2001))]) (w' := (SH, dt)) rfl ?_
  refine go_callq PM250 PM256 (Q' := _) rfl rfl rfl rfl (sp_J1_charAt_3b067_1f L xs sio (d + 0) dt hI  p1 (by first | exact h_p1 | exact bnd h_p1 (by decide) (by decide) | exact ⟨by fail, by fail⟩) ) ?_
  rintro _ _ ⟨rfl, h2⟩
  refine ⟨rfl, ?_⟩
  rcases h2 with ⟨v_h2, rfl, h2r, h2⟩
  refine go_retvq PM250 (v := v_h2) rfl (decide_eq_true (show 0 ≤ v_h2 ∧ v_h2 < 65536 by omega)) ?_
  exact ⟨rfl, ⟨_, rfl, ⟨by omega, by omega⟩, by first | exact True.intro | with_reducible assumption | rfl | fail | trivial⟩⟩
theorem sp_X1_isSame_0f (L : Nat) (xs : Nat → Int32) (sio : Option Nat) (d : Nat) (dt : Nat → Nat → Int) (hI : InvC dt)  (p2 : Int) (h_p2 : 0 ≤ p2 ∧ p2 ≤ 62) (p3 : Int) (h_p3 : 0 ≤ p3 ∧ p3 ≤ 500) (p4 : Int) (h_p4 : 0 ≤ p4 ∧ p4 ≤ 500)  : GO (am_XX L xs sio) (d + 4) 19 0 [some (.inr (.inr (some 35))), some (.inr (.inr (some 1000))), some (.inl p2), some (.inl p3), some (.inl p4), none, none] [] (SH, dt) (fun r w2 => w2 = (SH, dt) ∧ ((r = some (.inl 1) ∧ (IS 0 45 (mB (fun j => am_and (dt 36 j) 255) (dt 35 1)) p2 p3 p4)) ∨ (r = some (.inl 0) ∧ (¬ IS 0 45 (mB (fun j => am_and (dt 36 j) 255) (dt 35 1)) p2 p3 p4)))) := by
  have r1 : 0 ≤ dt 35 1 ∧ dt 35 1 ≤ 500 := InvC_get hI 35 1 rfl rfl
  refine go_toq PM19 (k := 2) (pc' := 3) (L' := [some (.inr (.inr (some 35))), some (.inr (.inr (some 1000))), some (.inl p2), some (.inl p3), some (.inl p4), some (.inl p3), none]) (st' := []) (w' := (SH, dt)) rfl ?_
  have loop12 : ∀ (k_ : Nat) (l3_5 : Int) (i9 : 0 ≤ l3_5 ∧ l3_5 ≤ 500) (i10 : p3 ≤ l3_5) (i11 : IS 0 45 (mB (fun j => am_and (dt 36 j) 255) (dt 35 1)) p2 p3 l3_5), (501 - l3_5).toNat < k_ → GO (am_XX L xs sio) (d + 4) 19 3 [some (.inr (.inr (some 35))), some (.inr (.inr (some 1000))), some (.inl p2), some (.inl p3), some (.inl p4), some (.inl l3_5), none] [] (SH, dt) (fun r w2 => w2 = (SH, dt) ∧ ((r = some (.inl 1) ∧ (IS 0 45 (mB (fun j => am_and (dt 36 j) 255) (dt 35 1)) p2 p3 p4)) ∨ (r = some (.inl 0) ∧ (¬ IS 0 45 (mB (fun j => am_and (dt 36 j) 255) (dt 35 1)) p2 p3 p4)))) := by
    intro k_
    induction k_ with
    | zero => intro l3_5 i9 i10 i11 hm; exact absurd hm (Nat.not_lt_zero _)
    | succ k_ ih_loop12 =>
      intro l3_5 i9 i10 i11 hm
      refine go_ifq PM19 (k := 2) (p1 := 50) (p2 := 10) (L' := [some (.inr (.inr (some 35))), some (.inr (.inr (some 1000))), some (.inl p2), some (.inl p3), some (.inl p4), some (.inl l3_5), none]) (st' := []) (w' := (SH, dt)) rfl (c_ge (a := l3_5) (b := p4) (by first | exact bnd i9 (by decide) (by decide) | exact ⟨by fail, by fail⟩) (by first | exact bnd h_p4 (by decide) (by decide) | exact ⟨by fail, by fail⟩)) (fun c13 => ?_) (fun c13 => ?_)
      · skip
        refine go_retq PM19 (k := 1) (r := some (.inl 1)) (w1 := (SH, dt)) rfl ?_
        exact ⟨rfl, (Or.inl ⟨rfl, by exact IS_m (by assumption) (by omega)⟩)⟩
      · skip
        refine go_toq PM19 (k := 8) (pc' := 21) (L' := [some (.inr (.inr (some 35))), some (.inr (.inr (some 1000))), some (.inl p2), some (.inl p3), some (.inl p4), some (.inl l3_5), some (.inl ((p2 + l3_5) - p3))]) (st' := [.inr (.inr (some 1000)), .inl ((p2 + l3_5) - p3)]) (w' := (SH, dt)) rfl ?_
        refine go_callq PM19 PM249 (Q' := _) rfl rfl rfl rfl (sp_J0_length_8abf5_1000 L xs sio (d + 2) dt hI   ) ?_
        rintro _ _ ⟨rfl, h14⟩
        refine ⟨rfl, ?_⟩
        rcases h14 with ⟨rfl, h14⟩
        refine go_ifq PM19 (k := 0) (p1 := 42) (p2 := 27) (L' := [some (.inr (.inr (some 35))), some (.inr (.inr (some 1000))), some (.inl p2), some (.inl p3), some (.inl p4), some (.inl l3_5), some (.inl ((p2 + l3_5) - p3))]) (st' := []) (w' := (SH, dt)) rfl (c_ge (a := (p2 + l3_5) - p3) (b := 45) ⟨by omega, by omega⟩ ⟨by decide, by decide⟩) (fun c15 => ?_) (fun c15 => ?_)
        · skip
          refine go_retq PM19 (k := 1) (r := some (.inl 0)) (w1 := (SH, dt)) rfl ?_
          exact ⟨rfl, (Or.inr ⟨rfl, by first | exact IS_f1 (l := l3_5) (by omega) (by omega) (by omega) | exact IS_f2 (l := l3_5) (by fail) (by fail) ⟨by fail, by fail⟩ (by fail) hI hI (by fail)⟩)⟩
        · skip
          refine go_toq PM19 (k := 2) (pc' := 30) (L' := [some (.inr (.inr (some 35))), some (.inr (.inr (some 1000))), some (.inl p2), some (.inl p3), some (.inl p4), some (.inl l3_5), some (.inl ((p2 + l3_5) - p3))]) (st' := [.inl ((p2 + l3_5) - p3), .inr (.inr (some 1000))]) (w' := (SH, dt)) rfl ?_
          refine go_callq PM19 PM250 (Q' := _) rfl rfl rfl rfl (sp_J0_charAt_5068e_0f L xs sio (d + 0) dt hI  ((p2 + l3_5) - p3) ⟨by omega, by omega⟩ ) ?_
          rintro _ _ ⟨rfl, h16⟩
          refine ⟨rfl, ?_⟩
          rcases h16 with ⟨v_h16, rfl, h16r, h16⟩
          refine go_toq PM19 (k := 2) (pc' := 36) (L' := [some (.inr (.inr (some 35))), some (.inr (.inr (some 1000))), some (.inl p2), some (.inl p3), some (.inl p4), some (.inl l3_5), some (.inl ((p2 + l3_5) - p3))]) (st' := [.inl l3_5, .inr (.inr (some 35)), .inl v_h16]) (w' := (SH, dt)) rfl ?_
          refine go_callq PM19 PM10 (Q' := _) rfl rfl rfl rfl (sp_X1_byteAt_f L xs sio (d + 3) dt hI  l3_5 (by first | exact bnd i9 (by decide) (by decide) | exact bndd i9 c13 (by decide) (by decide) | exact ⟨by fail, by fail⟩) ) ?_
          rintro _ _ ⟨rfl, h17⟩
          refine ⟨rfl, ?_⟩
          rcases h17 with ⟨v_h17, rfl, h17r, h17⟩
          refine go_ifq PM19 (k := 0) (p1 := 44) (p2 := 42) (L' := [some (.inr (.inr (some 35))), some (.inr (.inr (some 1000))), some (.inl p2), some (.inl p3), some (.inl p4), some (.inl l3_5), some (.inl ((p2 + l3_5) - p3))]) (st' := []) (w' := (SH, dt)) rfl (c_eq (a := v_h16) (b := v_h17) (by first | exact bnd h16r (by decide) (by decide) | exact ⟨by fail, by fail⟩) (by first | exact bnd h17r (by decide) (by decide) | exact ⟨by fail, by fail⟩)) (fun c18 => ?_) (fun c18 => ?_)
          · skip
            refine go_toq PM19 (k := 2) (pc' := 3) (L' := [some (.inr (.inr (some 35))), some (.inr (.inr (some 1000))), some (.inl p2), some (.inl p3), some (.inl p4), some (.inl (l3_5 + 1)), some (.inl ((p2 + l3_5) - p3))]) (st' := []) (w' := (SH, dt)) rfl ?_
            exact GO.le (ih_loop12 (l3_5 + 1) (by first | with_reducible assumption | omega | exact IS_0 (by fail) | exact IS_s (by assumption) ⟨by fail, by fail⟩ (by fail) (by fail) h16 h17 (by fail)) (by first | with_reducible assumption | omega | exact IS_0 (by fail) | exact IS_s (by assumption) ⟨by fail, by fail⟩ (by fail) (by fail) h16 h17 (by fail)) (by first | with_reducible assumption | fail | exact IS_0 (by fail) | exact IS_s (by assumption) ⟨by omega, by omega⟩ (by omega) (by omega) h16 h17 (by omega)) (by omega)) ⟨.inl rfl, .inl rfl, .inl rfl, .inl rfl, .inl rfl, .inl rfl, .inr ⟨rfl, trivial⟩, trivial⟩
          · skip
            replace c18 := hid c18
            refine go_retq PM19 (k := 1) (r := some (.inl 0)) (w1 := (SH, dt)) rfl ?_
            exact ⟨rfl, (Or.inr ⟨rfl, by first | exact IS_f1 (l := l3_5) (by omega) (by omega) (by fail) | exact IS_f2 (l := l3_5) (by omega) (by omega) ⟨by omega, by omega⟩ (by omega) h16 h17 (by (have z0_ := unhid c18; omega))⟩)⟩
  exact GO.le (loop12 _ p3 (by first | with_reducible assumption | fail | exact IS_0 (by fail) | exact IS_s (by assumption) ⟨by fail, by fail⟩ (by fail) (by fail) hI hI (by fail)) (by first | with_reducible assumption | omega | exact IS_0 (by fail) | exact IS_s (by assumption) ⟨by fail, by fail⟩ (by fail) (by fail) hI hI (by fail)) (by first | with_reducible assumption | fail | exact IS_0 (by omega) | exact IS_s (by assumption) ⟨by fail, by fail⟩ (by fail) (by fail) hI hI (by fail)) (Nat.lt_succ_self _)) ⟨.inl rfl, .inl rfl, .inl rfl, .inl rfl, .inl rfl, .inl rfl, .inl rfl, trivial⟩
theorem sp_X1_wordOf_0f (L : Nat) (xs : Nat → Int32) (sio : Option Nat) (d : Nat) (dt : Nat → Nat → Int) (hI : InvC dt)  (p2 : Int) (h_p2 : 0 ≤ p2 ∧ p2 ≤ 499) (p3 : Int) (h_p3 : 1 ≤ p3 ∧ p3 ≤ 500) (h_p0 : p2 ≤ p3) : GO (am_XX L xs sio) (d + 5) 18 0 [some (.inr (.inr (some 35))), some (.inr (.inr (some 1000))), some (.inl p2), some (.inl p3), none, none, none] [] (SH, dt) (fun r w2 => w2 = (SH, dt) ∧ ((∃ v : Int, r = some (.inl v) ∧ ((-1) ≤ v ∧ v ≤ 12) ∧ (v = wi wS (mB (fun j => am_and (dt 36 j) 255) (dt 35 1)) p2.toNat p3.toNat 0)))) := by
  have r1 : 0 ≤ dt 35 1 ∧ dt 35 1 ≤ 500 := InvC_get hI 35 1 rfl rfl
  refine go_toq PM18 (k := 6) (pc' := 9) (L' := [some (.inr (.inr (some 35))), some (.inr (.inr (some 1000))), some (.inl p2), some (.inl p3), some (.inl 0), some (.inl 0), some (.inl 0)]) (st' := []) (w' := (SH, dt)) rfl ?_
  have loop17 : ∀ (k_ : Nat) (l9_4 : Int) (l9_5 : Int) (l9_6 : Int) (i9 : 0 ≤ l9_4 ∧ l9_4 ≤ 12) (i10 : 0 ≤ l9_5 ∧ l9_5 ≤ 45) (i11 : 0 ≤ l9_6 ∧ l9_6 ≤ 45) (i12 : l9_4 = nb0.getD (l9_6).toNat 0) (i13 : l9_5 = sb0.getD (l9_6).toNat 0) (i14 : wi wS (mB (fun j => am_and (dt 36 j) 255) (dt 35 1)) p2.toNat p3.toNat 0 = wi (wS.drop (l9_4).toNat) (mB (fun j => am_and (dt 36 j) 255) (dt 35 1)) p2.toNat p3.toNat l9_4) (i15 : l9_4 ≤ l9_6) (i16 : l9_5 ≤ l9_6), (46 - l9_6).toNat < k_ → GO (am_XX L xs sio) (d + 5) 18 9 [some (.inr (.inr (some 35))), some (.inr (.inr (some 1000))), some (.inl p2), some (.inl p3), some (.inl l9_4), some (.inl l9_5), some (.inl l9_6)] [] (SH, dt) (fun r w2 => w2 = (SH, dt) ∧ ((∃ v : Int, r = some (.inl v) ∧ ((-1) ≤ v ∧ v ≤ 12) ∧ (v = wi wS (mB (fun j => am_and (dt 36 j) 255) (dt 35 1)) p2.toNat p3.toNat 0)))) := by
    intro k_
    induction k_ with
    | zero => intro l9_4 l9_5 l9_6 i9 i10 i11 i12 i13 i14 i15 i16 hm; exact absurd hm (Nat.not_lt_zero _)
    | succ k_ ih_loop17 =>
      intro l9_4 l9_5 l9_6 i9 i10 i11 i12 i13 i14 i15 i16 hm
      have q4 := i12
      have q5 := i13
      have q6 := i14
      refine go_toq PM18 (k := 2) (pc' := 12) (L' := [some (.inr (.inr (some 35))), some (.inr (.inr (some 1000))), some (.inl p2), some (.inl p3), some (.inl l9_4), some (.inl l9_5), some (.inl l9_6)]) (st' := [.inr (.inr (some 1000)), .inl l9_6]) (w' := (SH, dt)) rfl ?_
      refine go_callq PM18 PM249 (Q' := _) rfl rfl rfl rfl (sp_J0_length_8abf5_1000 L xs sio (d + 3) dt hI   ) ?_
      rintro _ _ ⟨rfl, h18⟩
      refine ⟨rfl, ?_⟩
      rcases h18 with ⟨rfl, h18⟩
      refine go_ifq PM18 (k := 0) (p1 := 70) (p2 := 18) (L' := [some (.inr (.inr (some 35))), some (.inr (.inr (some 1000))), some (.inl p2), some (.inl p3), some (.inl l9_4), some (.inl l9_5), some (.inl l9_6)]) (st' := []) (w' := (SH, dt)) rfl (c_ge (a := l9_6) (b := 45) (by first | exact bnd i11 (by decide) (by decide) | exact ⟨by fail, by fail⟩) ⟨by decide, by decide⟩) (fun c19 => ?_) (fun c19 => ?_)
      · skip
        refine go_retq PM18 (k := 1) (r := some (.inl (-1))) (w1 := (SH, dt)) rfl ?_
        exact ⟨rfl, ⟨_, rfl, ⟨by decide, by decide⟩, by first | exact (W0_m ⟨by fail, by fail⟩ hI (by fail) q4 q5 ⟨by fail, by fail⟩ q6).1 (by fail) hI | (have e : l9_6 = 45 := (by omega); subst e; rw [q6, q4]; rfl)⟩⟩
      · skip
        refine go_toq PM18 (k := 2) (pc' := 21) (L' := [some (.inr (.inr (some 35))), some (.inr (.inr (some 1000))), some (.inl p2), some (.inl p3), some (.inl l9_4), some (.inl l9_5), some (.inl l9_6)]) (st' := [.inl l9_6, .inr (.inr (some 1000))]) (w' := (SH, dt)) rfl ?_
        refine go_callq PM18 PM250 (Q' := _) rfl rfl rfl rfl (sp_J0_charAt_5068e_0f L xs sio (d + 1) dt hI  l9_6 (by first | exact bnd i11 (by decide) (by decide) | exact bndd i11 c19 (by decide) (by decide) | exact ⟨by fail, by fail⟩) ) ?_
        rintro _ _ ⟨rfl, h20⟩
        refine ⟨rfl, ?_⟩
        rcases h20 with ⟨v_h20, rfl, h20r, h20⟩
        refine go_ifq PM18 (k := 1) (p1 := 64) (p2 := 29) (L' := [some (.inr (.inr (some 35))), some (.inr (.inr (some 1000))), some (.inl p2), some (.inl p3), some (.inl l9_4), some (.inl l9_5), some (.inl l9_6)]) (st' := []) (w' := (SH, dt)) rfl (c_ne (a := v_h20) (b := 32) (by first | exact bnd h20r (by decide) (by decide) | exact ⟨by fail, by fail⟩) ⟨by decide, by decide⟩) (fun c21 => ?_) (fun c21 => ?_)
        · skip
          replace c21 := hid c21
          refine go_toq PM18 (k := 2) (pc' := 9) (L' := [some (.inr (.inr (some 35))), some (.inr (.inr (some 1000))), some (.inl p2), some (.inl p3), some (.inl l9_4), some (.inl l9_5), some (.inl (l9_6 + 1))]) (st' := []) (w' := (SH, dt)) rfl ?_
          exact GO.le (ih_loop17 l9_4 l9_5 (l9_6 + 1) (by first | omega | rfl | (rw [(W0_n ⟨by fail, by fail⟩ h20 (by fail)).1]; assumption) | (rw [(W0_n ⟨by fail, by fail⟩ h20 (by fail)).2]; assumption) | (have z := W0_b ⟨by fail, by fail⟩ h20 (by fail); fail) | assumption | exact (W0_m ⟨by fail, by fail⟩ h20 (by fail) q4 q5 ⟨by fail, by fail⟩ q6).2 (.inl (by fail)) | exact (W0_m ⟨by fail, by fail⟩ h20 (by fail) q4 q5 ⟨by fail, by fail⟩ q6).2 (.inr hI)) (by first | omega | rfl | (rw [(W0_n ⟨by fail, by fail⟩ h20 (by fail)).1]; assumption) | (rw [(W0_n ⟨by fail, by fail⟩ h20 (by fail)).2]; assumption) | (have z := W0_b ⟨by fail, by fail⟩ h20 (by fail); fail) | assumption | exact (W0_m ⟨by fail, by fail⟩ h20 (by fail) q4 q5 ⟨by fail, by fail⟩ q6).2 (.inl (by fail)) | exact (W0_m ⟨by fail, by fail⟩ h20 (by fail) q4 q5 ⟨by fail, by fail⟩ q6).2 (.inr hI)) (by first | omega | rfl | (rw [(W0_n ⟨by fail, by fail⟩ h20 (by fail)).1]; assumption) | (rw [(W0_n ⟨by fail, by fail⟩ h20 (by fail)).2]; assumption) | (have z := W0_b ⟨by fail, by fail⟩ h20 (by fail); fail) | assumption | exact (W0_m ⟨by fail, by fail⟩ h20 (by fail) q4 q5 ⟨by fail, by fail⟩ q6).2 (.inl (by fail)) | exact (W0_m ⟨by fail, by fail⟩ h20 (by fail) q4 q5 ⟨by fail, by fail⟩ q6).2 (.inr hI)) (by first | fail | rfl | (rw [(W0_n ⟨by omega, by omega⟩ h20 (by (have z0_ := unhid c21; omega))).1]; assumption) | (rw [(W0_n ⟨by fail, by fail⟩ h20 (by fail)).2]; assumption) | (have z := W0_b ⟨by fail, by fail⟩ h20 (by fail); fail) | assumption | exact (W0_m ⟨by fail, by fail⟩ h20 (by fail) q4 q5 ⟨by fail, by fail⟩ q6).2 (.inl (by fail)) | exact (W0_m ⟨by fail, by fail⟩ h20 (by fail) q4 q5 ⟨by fail, by fail⟩ q6).2 (.inr hI)) (by first | fail | rfl | (rw [(W0_n ⟨by fail, by fail⟩ h20 (by fail)).1]; assumption) | (rw [(W0_n ⟨by omega, by omega⟩ h20 (by (have z0_ := unhid c21; omega))).2]; assumption) | (have z := W0_b ⟨by fail, by fail⟩ h20 (by fail); fail) | assumption | exact (W0_m ⟨by fail, by fail⟩ h20 (by fail) q4 q5 ⟨by fail, by fail⟩ q6).2 (.inl (by fail)) | exact (W0_m ⟨by fail, by fail⟩ h20 (by fail) q4 q5 ⟨by fail, by fail⟩ q6).2 (.inr hI)) (by first | omega | rfl | (rw [(W0_n ⟨by fail, by fail⟩ h20 (by fail)).1]; assumption) | (rw [(W0_n ⟨by fail, by fail⟩ h20 (by fail)).2]; assumption) | (have z := W0_b ⟨by fail, by fail⟩ h20 (by fail); fail) | assumption | exact (W0_m ⟨by fail, by fail⟩ h20 (by fail) q4 q5 ⟨by fail, by fail⟩ q6).2 (.inl (by fail)) | exact (W0_m ⟨by fail, by fail⟩ h20 (by fail) q4 q5 ⟨by fail, by fail⟩ q6).2 (.inr hI)) (by first | omega | rfl | (rw [(W0_n ⟨by fail, by fail⟩ h20 (by fail)).1]; assumption) | (rw [(W0_n ⟨by fail, by fail⟩ h20 (by fail)).2]; assumption) | (have z := W0_b ⟨by fail, by fail⟩ h20 (by fail); fail) | assumption | exact (W0_m ⟨by fail, by fail⟩ h20 (by fail) q4 q5 ⟨by fail, by fail⟩ q6).2 (.inl (by fail)) | exact (W0_m ⟨by fail, by fail⟩ h20 (by fail) q4 q5 ⟨by fail, by fail⟩ q6).2 (.inr hI)) (by first | omega | rfl | (rw [(W0_n ⟨by fail, by fail⟩ h20 (by fail)).1]; assumption) | (rw [(W0_n ⟨by fail, by fail⟩ h20 (by fail)).2]; assumption) | (have z := W0_b ⟨by fail, by fail⟩ h20 (by fail); fail) | assumption | exact (W0_m ⟨by fail, by fail⟩ h20 (by fail) q4 q5 ⟨by fail, by fail⟩ q6).2 (.inl (by fail)) | exact (W0_m ⟨by fail, by fail⟩ h20 (by fail) q4 q5 ⟨by fail, by fail⟩ q6).2 (.inr hI)) (by omega)) ⟨.inl rfl, .inl rfl, .inl rfl, .inl rfl, .inl rfl, .inl rfl, .inl rfl, trivial⟩
        · skip
          refine go_ifq PM18 (k := 6) (p1 := 55) (p2 := 40) (L' := [some (.inr (.inr (some 35))), some (.inr (.inr (some 1000))), some (.inl p2), some (.inl p3), some (.inl l9_4), some (.inl l9_5), some (.inl l9_6)]) (st' := []) (w' := (SH, dt)) rfl (c_ne (a := l9_6 - l9_5) (b := p3 - p2) ⟨by omega, by omega⟩ ⟨by omega, by omega⟩) (fun c22 => ?_) (fun c22 => ?_)
          · skip
            replace c22 := hid c22
            refine go_toq PM18 (k := 7) (pc' := 9) (L' := [some (.inr (.inr (some 35))), some (.inr (.inr (some 1000))), some (.inl p2), some (.inl p3), some (.inl (l9_4 + 1)), some (.inl (l9_6 + 1)), some (.inl (l9_6 + 1))]) (st' := []) (w' := (SH, dt)) rfl ?_
            exact GO.le (ih_loop17 (l9_4 + 1) (l9_6 + 1) (l9_6 + 1) (by first | fail | rfl | (rw [(W0_n ⟨by fail, by fail⟩ h20 (by fail)).1]; assumption) | (rw [(W0_n ⟨by fail, by fail⟩ h20 (by fail)).2]; assumption) | (have z := W0_b ⟨by omega, by omega⟩ h20 (by omega); omega) | assumption | exact (W0_m ⟨by fail, by fail⟩ h20 (by fail) q4 q5 ⟨by fail, by fail⟩ q6).2 (.inl (by fail)) | exact (W0_m ⟨by fail, by fail⟩ h20 (by fail) q4 q5 ⟨by fail, by fail⟩ q6).2 (.inr hI)) (by first | omega | rfl | (rw [(W0_n ⟨by fail, by fail⟩ h20 (by fail)).1]; assumption) | (rw [(W0_n ⟨by fail, by fail⟩ h20 (by fail)).2]; assumption) | (have z := W0_b ⟨by fail, by fail⟩ h20 (by fail); fail) | assumption | exact (W0_m ⟨by fail, by fail⟩ h20 (by fail) q4 q5 ⟨by fail, by fail⟩ q6).2 (.inl (by fail)) | exact (W0_m ⟨by fail, by fail⟩ h20 (by fail) q4 q5 ⟨by fail, by fail⟩ q6).2 (.inr hI)) (by first | omega | rfl | (rw [(W0_n ⟨by fail, by fail⟩ h20 (by fail)).1]; assumption) | (rw [(W0_n ⟨by fail, by fail⟩ h20 (by fail)).2]; assumption) | (have z := W0_b ⟨by fail, by fail⟩ h20 (by fail); fail) | assumption | exact (W0_m ⟨by fail, by fail⟩ h20 (by fail) q4 q5 ⟨by fail, by fail⟩ q6).2 (.inl (by fail)) | exact (W0_m ⟨by fail, by fail⟩ h20 (by fail) q4 q5 ⟨by fail, by fail⟩ q6).2 (.inr hI)) (by first | fail | rfl | (rw [(W0_n ⟨by omega, by omega⟩ h20 (by fail)).1]; assumption) | (rw [(W0_n ⟨by fail, by fail⟩ h20 (by fail)).2]; assumption) | (have z := W0_b ⟨by omega, by omega⟩ h20 (by omega); omega) | assumption | exact (W0_m ⟨by fail, by fail⟩ h20 (by fail) q4 q5 ⟨by fail, by fail⟩ q6).2 (.inl (by fail)) | exact (W0_m ⟨by fail, by fail⟩ h20 (by fail) q4 q5 ⟨by fail, by fail⟩ q6).2 (.inr hI)) (by first | fail | rfl | (rw [(W0_n ⟨by fail, by fail⟩ h20 (by fail)).1]; assumption) | (rw [(W0_n ⟨by omega, by omega⟩ h20 (by fail)).2]; assumption) | (have z := W0_b ⟨by omega, by omega⟩ h20 (by omega); omega) | assumption | exact (W0_m ⟨by fail, by fail⟩ h20 (by fail) q4 q5 ⟨by fail, by fail⟩ q6).2 (.inl (by fail)) | exact (W0_m ⟨by fail, by fail⟩ h20 (by fail) q4 q5 ⟨by fail, by fail⟩ q6).2 (.inr hI)) (by first | fail | rfl | (rw [(W0_n ⟨by fail, by fail⟩ h20 (by fail)).1]; assumption) | (rw [(W0_n ⟨by fail, by fail⟩ h20 (by fail)).2]; assumption) | (have z := W0_b ⟨by omega, by omega⟩ h20 (by omega); fail) | assumption | exact (W0_m ⟨by omega, by omega⟩ h20 (by omega) q4 q5 ⟨by omega, by omega⟩ q6).2 (.inl (by (have z0_ := unhid c22; omega))) | exact (W0_m ⟨by fail, by fail⟩ h20 (by fail) q4 q5 ⟨by fail, by fail⟩ q6).2 (.inr hI)) (by first | omega | rfl | (rw [(W0_n ⟨by fail, by fail⟩ h20 (by fail)).1]; assumption) | (rw [(W0_n ⟨by fail, by fail⟩ h20 (by fail)).2]; assumption) | (have z := W0_b ⟨by fail, by fail⟩ h20 (by fail); fail) | assumption | exact (W0_m ⟨by fail, by fail⟩ h20 (by fail) q4 q5 ⟨by fail, by fail⟩ q6).2 (.inl (by fail)) | exact (W0_m ⟨by fail, by fail⟩ h20 (by fail) q4 q5 ⟨by fail, by fail⟩ q6).2 (.inr hI)) (by first | omega | rfl | (rw [(W0_n ⟨by fail, by fail⟩ h20 (by fail)).1]; assumption) | (rw [(W0_n ⟨by fail, by fail⟩ h20 (by fail)).2]; assumption) | (have z := W0_b ⟨by fail, by fail⟩ h20 (by fail); fail) | assumption | exact (W0_m ⟨by fail, by fail⟩ h20 (by fail) q4 q5 ⟨by fail, by fail⟩ q6).2 (.inl (by fail)) | exact (W0_m ⟨by fail, by fail⟩ h20 (by fail) q4 q5 ⟨by fail, by fail⟩ q6).2 (.inr hI)) (by omega)) ⟨.inl rfl, .inl rfl, .inl rfl, .inl rfl, .inl rfl, .inl rfl, .inl rfl, trivial⟩
          · skip
            refine go_toq PM18 (k := 5) (pc' := 46) (L' := [some (.inr (.inr (some 35))), some (.inr (.inr (some 1000))), some (.inl p2), some (.inl p3), some (.inl l9_4), some (.inl l9_5), some (.inl l9_6)]) (st' := [.inl p3, .inl p2, .inl l9_5, .inr (.inr (some 1000)), .inr (.inr (some 35))]) (w' := (SH, dt)) rfl ?_
            refine go_callq PM18 PM19 (Q' := _) rfl rfl rfl rfl (sp_X1_isSame_0f L xs sio (d + 0) dt hI  l9_5 (by first | exact bnd i10 (by decide) (by decide) | exact ⟨by fail, by fail⟩) p2 (by first | exact h_p2 | exact bnd h_p2 (by decide) (by decide) | exact ⟨by fail, by fail⟩) p3 (by first | exact h_p3 | exact bnd h_p3 (by decide) (by decide) | exact ⟨by fail, by fail⟩) ) ?_
            rintro _ _ ⟨rfl, h23⟩
            refine ⟨rfl, ?_⟩
            rcases h23 with ⟨rfl, h23⟩ | ⟨rfl, h23⟩
            · skip
              refine go_retq PM18 (k := 2) (r := some (.inl l9_4)) (w1 := (SH, dt)) rfl ?_
              exact ⟨rfl, ⟨_, rfl, (by first | exact bnd i9 (by decide) (by decide) | exact ⟨by fail, by fail⟩), by first | exact (W0_m ⟨by omega, by omega⟩ h20 (by omega) q4 q5 ⟨by omega, by omega⟩ q6).1 (by omega) h23 | (have e : l9_6 = 45 := (by fail); subst e; rw [q6, q4]; rfl)⟩⟩
            · skip
              refine go_toq PM18 (k := 8) (pc' := 9) (L' := [some (.inr (.inr (some 35))), some (.inr (.inr (some 1000))), some (.inl p2), some (.inl p3), some (.inl (l9_4 + 1)), some (.inl (l9_6 + 1)), some (.inl (l9_6 + 1))]) (st' := []) (w' := (SH, dt)) rfl ?_
              exact GO.le (ih_loop17 (l9_4 + 1) (l9_6 + 1) (l9_6 + 1) (by first | fail | rfl | (rw [(W0_n ⟨by fail, by fail⟩ h20 (by fail)).1]; assumption) | (rw [(W0_n ⟨by fail, by fail⟩ h20 (by fail)).2]; assumption) | (have z := W0_b ⟨by omega, by omega⟩ h20 (by omega); omega) | assumption | exact (W0_m ⟨by fail, by fail⟩ h20 (by fail) q4 q5 ⟨by fail, by fail⟩ q6).2 (.inl (by fail)) | exact (W0_m ⟨by fail, by fail⟩ h20 (by fail) q4 q5 ⟨by fail, by fail⟩ q6).2 (.inr h23)) (by first | omega | rfl | (rw [(W0_n ⟨by fail, by fail⟩ h20 (by fail)).1]; assumption) | (rw [(W0_n ⟨by fail, by fail⟩ h20 (by fail)).2]; assumption) | (have z := W0_b ⟨by fail, by fail⟩ h20 (by fail); fail) | assumption | exact (W0_m ⟨by fail, by fail⟩ h20 (by fail) q4 q5 ⟨by fail, by fail⟩ q6).2 (.inl (by fail)) | exact (W0_m ⟨by fail, by fail⟩ h20 (by fail) q4 q5 ⟨by fail, by fail⟩ q6).2 (.inr h23)) (by first | omega | rfl | (rw [(W0_n ⟨by fail, by fail⟩ h20 (by fail)).1]; assumption) | (rw [(W0_n ⟨by fail, by fail⟩ h20 (by fail)).2]; assumption) | (have z := W0_b ⟨by fail, by fail⟩ h20 (by fail); fail) | assumption | exact (W0_m ⟨by fail, by fail⟩ h20 (by fail) q4 q5 ⟨by fail, by fail⟩ q6).2 (.inl (by fail)) | exact (W0_m ⟨by fail, by fail⟩ h20 (by fail) q4 q5 ⟨by fail, by fail⟩ q6).2 (.inr h23)) (by first | fail | rfl | (rw [(W0_n ⟨by omega, by omega⟩ h20 (by fail)).1]; assumption) | (rw [(W0_n ⟨by fail, by fail⟩ h20 (by fail)).2]; assumption) | (have z := W0_b ⟨by omega, by omega⟩ h20 (by omega); omega) | assumption | exact (W0_m ⟨by fail, by fail⟩ h20 (by fail) q4 q5 ⟨by fail, by fail⟩ q6).2 (.inl (by fail)) | exact (W0_m ⟨by fail, by fail⟩ h20 (by fail) q4 q5 ⟨by fail, by fail⟩ q6).2 (.inr h23)) (by first | fail | rfl | (rw [(W0_n ⟨by fail, by fail⟩ h20 (by fail)).1]; assumption) | (rw [(W0_n ⟨by omega, by omega⟩ h20 (by fail)).2]; assumption) | (have z := W0_b ⟨by omega, by omega⟩ h20 (by omega); omega) | assumption | exact (W0_m ⟨by fail, by fail⟩ h20 (by fail) q4 q5 ⟨by fail, by fail⟩ q6).2 (.inl (by fail)) | exact (W0_m ⟨by fail, by fail⟩ h20 (by fail) q4 q5 ⟨by fail, by fail⟩ q6).2 (.inr h23)) (by first | fail | rfl | (rw [(W0_n ⟨by fail, by fail⟩ h20 (by fail)).1]; assumption) | (rw [(W0_n ⟨by fail, by fail⟩ h20 (by fail)).2]; assumption) | (have z := W0_b ⟨by omega, by omega⟩ h20 (by omega); fail) | assumption | exact (W0_m ⟨by omega, by omega⟩ h20 (by omega) q4 q5 ⟨by omega, by omega⟩ q6).2 (.inl (by fail)) | exact (W0_m ⟨by omega, by omega⟩ h20 (by omega) q4 q5 ⟨by omega, by omega⟩ q6).2 (.inr h23)) (by first | omega | rfl | (rw [(W0_n ⟨by fail, by fail⟩ h20 (by fail)).1]; assumption) | (rw [(W0_n ⟨by fail, by fail⟩ h20 (by fail)).2]; assumption) | (have z := W0_b ⟨by fail, by fail⟩ h20 (by fail); fail) | assumption | exact (W0_m ⟨by fail, by fail⟩ h20 (by fail) q4 q5 ⟨by fail, by fail⟩ q6).2 (.inl (by fail)) | exact (W0_m ⟨by fail, by fail⟩ h20 (by fail) q4 q5 ⟨by fail, by fail⟩ q6).2 (.inr h23)) (by first | omega | rfl | (rw [(W0_n ⟨by fail, by fail⟩ h20 (by fail)).1]; assumption) | (rw [(W0_n ⟨by fail, by fail⟩ h20 (by fail)).2]; assumption) | (have z := W0_b ⟨by fail, by fail⟩ h20 (by fail); fail) | assumption | exact (W0_m ⟨by fail, by fail⟩ h20 (by fail) q4 q5 ⟨by fail, by fail⟩ q6).2 (.inl (by fail)) | exact (W0_m ⟨by fail, by fail⟩ h20 (by fail) q4 q5 ⟨by fail, by fail⟩ q6).2 (.inr h23)) (by omega)) ⟨.inl rfl, .inl rfl, .inl rfl, .inl rfl, .inl rfl, .inl rfl, .inl rfl, trivial⟩
  exact GO.le (loop17 _ 0 0 0 (by first | omega | rfl | (rw [(W0_n ⟨by fail, by fail⟩ hI (by fail)).1]; assumption) | (rw [(W0_n ⟨by fail, by fail⟩ hI (by fail)).2]; assumption) | (have z := W0_b ⟨by fail, by fail⟩ hI (by fail); fail) | assumption | exact (W0_m ⟨by fail, by fail⟩ hI (by fail) q4 q5 ⟨by fail, by fail⟩ q6).2 (.inl (by fail)) | exact (W0_m ⟨by fail, by fail⟩ hI (by fail) q4 q5 ⟨by fail, by fail⟩ q6).2 (.inr hI)) (by first | omega | rfl | (rw [(W0_n ⟨by fail, by fail⟩ hI (by fail)).1]; assumption) | (rw [(W0_n ⟨by fail, by fail⟩ hI (by fail)).2]; assumption) | (have z := W0_b ⟨by fail, by fail⟩ hI (by fail); fail) | assumption | exact (W0_m ⟨by fail, by fail⟩ hI (by fail) q4 q5 ⟨by fail, by fail⟩ q6).2 (.inl (by fail)) | exact (W0_m ⟨by fail, by fail⟩ hI (by fail) q4 q5 ⟨by fail, by fail⟩ q6).2 (.inr hI)) (by first | omega | rfl | (rw [(W0_n ⟨by fail, by fail⟩ hI (by fail)).1]; assumption) | (rw [(W0_n ⟨by fail, by fail⟩ hI (by fail)).2]; assumption) | (have z := W0_b ⟨by fail, by fail⟩ hI (by fail); fail) | assumption | exact (W0_m ⟨by fail, by fail⟩ hI (by fail) q4 q5 ⟨by fail, by fail⟩ q6).2 (.inl (by fail)) | exact (W0_m ⟨by fail, by fail⟩ hI (by fail) q4 q5 ⟨by fail, by fail⟩ q6).2 (.inr hI)) (by first | fail | rfl | (rw [(W0_n ⟨by fail, by fail⟩ hI (by fail)).1]; assumption) | (rw [(W0_n ⟨by fail, by fail⟩ hI (by fail)).2]; assumption) | (have z := W0_b ⟨by fail, by fail⟩ hI (by fail); fail) | assumption | exact (W0_m ⟨by fail, by fail⟩ hI (by fail) q4 q5 ⟨by fail, by fail⟩ q6).2 (.inl (by fail)) | exact (W0_m ⟨by fail, by fail⟩ hI (by fail) q4 q5 ⟨by fail, by fail⟩ q6).2 (.inr hI)) (by first | fail | rfl | (rw [(W0_n ⟨by fail, by fail⟩ hI (by fail)).1]; assumption) | (rw [(W0_n ⟨by fail, by fail⟩ hI (by fail)).2]; assumption) | (have z := W0_b ⟨by fail, by fail⟩ hI (by fail); fail) | assumption | exact (W0_m ⟨by fail, by fail⟩ hI (by fail) q4 q5 ⟨by fail, by fail⟩ q6).2 (.inl (by fail)) | exact (W0_m ⟨by fail, by fail⟩ hI (by fail) q4 q5 ⟨by fail, by fail⟩ q6).2 (.inr hI)) (by first | fail | rfl | (rw [(W0_n ⟨by fail, by fail⟩ hI (by fail)).1]; assumption) | (rw [(W0_n ⟨by fail, by fail⟩ hI (by fail)).2]; assumption) | (have z := W0_b ⟨by fail, by fail⟩ hI (by fail); fail) | assumption | exact (W0_m ⟨by fail, by fail⟩ hI (by fail) q4 q5 ⟨by fail, by fail⟩ q6).2 (.inl (by fail)) | exact (W0_m ⟨by fail, by fail⟩ hI (by fail) q4 q5 ⟨by fail, by fail⟩ q6).2 (.inr hI)) (by first | omega | rfl | (rw [(W0_n ⟨by fail, by fail⟩ hI (by fail)).1]; assumption) | (rw [(W0_n ⟨by fail, by fail⟩ hI (by fail)).2]; assumption) | (have z := W0_b ⟨by fail, by fail⟩ hI (by fail); fail) | assumption | exact (W0_m ⟨by fail, by fail⟩ hI (by fail) q4 q5 ⟨by fail, by fail⟩ q6).2 (.inl (by fail)) | exact (W0_m ⟨by fail, by fail⟩ hI (by fail) q4 q5 ⟨by fail, by fail⟩ q6).2 (.inr hI)) (by first | omega | rfl | (rw [(W0_n ⟨by fail, by fail⟩ hI (by fail)).1]; assumption) | (rw [(W0_n ⟨by fail, by fail⟩ hI (by fail)).2]; assumption) | (have z := W0_b ⟨by fail, by fail⟩ hI (by fail); fail) | assumption | exact (W0_m ⟨by fail, by fail⟩ hI (by fail) q4 q5 ⟨by fail, by fail⟩ q6).2 (.inl (by fail)) | exact (W0_m ⟨by fail, by fail⟩ hI (by fail) q4 q5 ⟨by fail, by fail⟩ q6).2 (.inr hI)) (Nat.lt_succ_self _)) ⟨.inl rfl, .inl rfl, .inl rfl, .inl rfl, .inl rfl, .inl rfl, .inl rfl, trivial⟩
theorem sp_X1_isSame_1f (L : Nat) (xs : Nat → Int32) (sio : Option Nat) (d : Nat) (dt : Nat → Nat → Int) (hI : InvC dt)  (p2 : Int) (h_p2 : 0 ≤ p2 ∧ p2 ≤ 62) (p3 : Int) (h_p3 : 0 ≤ p3 ∧ p3 ≤ 500) (p4 : Int) (h_p4 : 0 ≤ p4 ∧ p4 ≤ 500)  : GO (am_XX L xs sio) (d + 4) 19 0 [some (.inr (.inr (some 35))), some (.inr (.inr (some 1001))), some (.inl p2), some (.inl p3), some (.inl p4), none, none] [] (SH, dt) (fun r w2 => w2 = (SH, dt) ∧ ((r = some (.inl 1) ∧ (IS 1 62 (mB (fun j => am_and (dt 36 j) 255) (dt 35 1)) p2 p3 p4)) ∨ (r = some (.inl 0) ∧ (¬ IS 1 62 (mB (fun j => am_and (dt 36 j) 255) (dt 35 1)) p2 p3 p4)))) := by
  have r1 : 0 ≤ dt 35 1 ∧ dt 35 1 ≤ 500 := InvC_get hI 35 1 rfl rfl
  refine go_toq PM19 (k := 2) (pc' := 3) (L' := [some (.inr (.inr (some 35))), some (.inr (.inr (some 1001))), some (.inl p2), some (.inl p3), some (.inl p4), some (.inl p3), none]) (st' := []) (w' := (SH, dt)) rfl ?_
  have loop12 : ∀ (k_ : Nat) (l3_5 : Int) (i9 : 0 ≤ l3_5 ∧ l3_5 ≤ 500) (i10 : p3 ≤ l3_5) (i11 : IS 1 62 (mB (fun j => am_and (dt 36 j) 255) (dt 35 1)) p2 p3 l3_5), (501 - l3_5).toNat < k_ → GO (am_XX L xs sio) (d + 4) 19 3 [some (.inr (.inr (some 35))), some (.inr (.inr (some 1001))), some (.inl p2), some (.inl p3), some (.inl p4), some (.inl l3_5), none] [] (SH, dt) (fun r w2 => w2 = (SH, dt) ∧ ((r = some (.inl 1) ∧ (IS 1 62 (mB (fun j => am_and (dt 36 j) 255) (dt 35 1)) p2 p3 p4)) ∨ (r = some (.inl 0) ∧ (¬ IS 1 62 (mB (fun j => am_and (dt 36 j) 255) (dt 35 1)) p2 p3 p4)))) := by
    intro k_
    induction k_ with
    | zero => intro l3_5 i9 i10 i11 hm; exact absurd hm (Nat.not_lt_zero _)
    | succ k_ ih_loop12 =>
      intro l3_5 i9 i10 i11 hm
      refine go_ifq PM19 (k := 2) (p1 := 50) (p2 := 10) (L' := [some (.inr (.inr (some 35))), some (.inr (.inr (some 1001))), some (.inl p2), some (.inl p3), some (.inl p4), some (.inl l3_5), none]) (st' := []) (w' := (SH, dt)) rfl (c_ge (a := l3_5) (b := p4) (by first | exact bnd i9 (by decide) (by decide) | exact ⟨by fail, by fail⟩) (by first | exact bnd h_p4 (by decide) (by decide) | exact ⟨by fail, by fail⟩)) (fun c13 => ?_) (fun c13 => ?_)
      · skip
        refine go_retq PM19 (k := 1) (r := some (.inl 1)) (w1 := (SH, dt)) rfl ?_
        exact ⟨rfl, (Or.inl ⟨rfl, by exact IS_m (by assumption) (by omega)⟩)⟩
      · skip
        refine go_toq PM19 (k := 8) (pc' := 21) (L' := [some (.inr (.inr (some 35))), some (.inr (.inr (some 1001))), some (.inl p2), some (.inl p3), some (.inl p4), some (.inl l3_5), some (.inl ((p2 + l3_5) - p3))]) (st' := [.inr (.inr (some 1001)), .inl ((p2 + l3_5) - p3)]) (w' := (SH, dt)) rfl ?_
        refine go_callq PM19 PM249 (Q' := _) rfl rfl rfl rfl (sp_J0_length_8abf5_1001 L xs sio (d + 2) dt hI   ) ?_
        rintro _ _ ⟨rfl, h14⟩
        refine ⟨rfl, ?_⟩
        rcases h14 with ⟨rfl, h14⟩
        refine go_ifq PM19 (k := 0) (p1 := 42) (p2 := 27) (L' := [some (.inr (.inr (some 35))), some (.inr (.inr (some 1001))), some (.inl p2), some (.inl p3), some (.inl p4), some (.inl l3_5), some (.inl ((p2 + l3_5) - p3))]) (st' := []) (w' := (SH, dt)) rfl (c_ge (a := (p2 + l3_5) - p3) (b := 62) ⟨by omega, by omega⟩ ⟨by decide, by decide⟩) (fun c15 => ?_) (fun c15 => ?_)
        · skip
          refine go_retq PM19 (k := 1) (r := some (.inl 0)) (w1 := (SH, dt)) rfl ?_
          exact ⟨rfl, (Or.inr ⟨rfl, by first | exact IS_f1 (l := l3_5) (by omega) (by omega) (by omega) | exact IS_f2 (l := l3_5) (by fail) (by fail) ⟨by fail, by fail⟩ (by fail) hI hI (by fail)⟩)⟩
        · skip
          refine go_toq PM19 (k := 2) (pc' := 30) (L' := [some (.inr (.inr (some 35))), some (.inr (.inr (some 1001))), some (.inl p2), some (.inl p3), some (.inl p4), some (.inl l3_5), some (.inl ((p2 + l3_5) - p3))]) (st' := [.inl ((p2 + l3_5) - p3), .inr (.inr (some 1001))]) (w' := (SH, dt)) rfl ?_
          refine go_callq PM19 PM250 (Q' := _) rfl rfl rfl rfl (sp_J0_charAt_5068e_1f L xs sio (d + 0) dt hI  ((p2 + l3_5) - p3) ⟨by omega, by omega⟩ ) ?_
          rintro _ _ ⟨rfl, h16⟩
          refine ⟨rfl, ?_⟩
          rcases h16 with ⟨v_h16, rfl, h16r, h16⟩
          refine go_toq PM19 (k := 2) (pc' := 36) (L' := [some (.inr (.inr (some 35))), some (.inr (.inr (some 1001))), some (.inl p2), some (.inl p3), some (.inl p4), some (.inl l3_5), some (.inl ((p2 + l3_5) - p3))]) (st' := [.inl l3_5, .inr (.inr (some 35)), .inl v_h16]) (w' := (SH, dt)) rfl ?_
          refine go_callq PM19 PM10 (Q' := _) rfl rfl rfl rfl (sp_X1_byteAt_f L xs sio (d + 3) dt hI  l3_5 (by first | exact bnd i9 (by decide) (by decide) | exact bndd i9 c13 (by decide) (by decide) | exact ⟨by fail, by fail⟩) ) ?_
          rintro _ _ ⟨rfl, h17⟩
          refine ⟨rfl, ?_⟩
          rcases h17 with ⟨v_h17, rfl, h17r, h17⟩
          refine go_ifq PM19 (k := 0) (p1 := 44) (p2 := 42) (L' := [some (.inr (.inr (some 35))), some (.inr (.inr (some 1001))), some (.inl p2), some (.inl p3), some (.inl p4), some (.inl l3_5), some (.inl ((p2 + l3_5) - p3))]) (st' := []) (w' := (SH, dt)) rfl (c_eq (a := v_h16) (b := v_h17) (by first | exact bnd h16r (by decide) (by decide) | exact ⟨by fail, by fail⟩) (by first | exact bnd h17r (by decide) (by decide) | exact ⟨by fail, by fail⟩)) (fun c18 => ?_) (fun c18 => ?_)
          · skip
            refine go_toq PM19 (k := 2) (pc' := 3) (L' := [some (.inr (.inr (some 35))), some (.inr (.inr (some 1001))), some (.inl p2), some (.inl p3), some (.inl p4), some (.inl (l3_5 + 1)), some (.inl ((p2 + l3_5) - p3))]) (st' := []) (w' := (SH, dt)) rfl ?_
            exact GO.le (ih_loop12 (l3_5 + 1) (by first | with_reducible assumption | omega | exact IS_0 (by fail) | exact IS_s (by assumption) ⟨by fail, by fail⟩ (by fail) (by fail) h16 h17 (by fail)) (by first | with_reducible assumption | omega | exact IS_0 (by fail) | exact IS_s (by assumption) ⟨by fail, by fail⟩ (by fail) (by fail) h16 h17 (by fail)) (by first | with_reducible assumption | fail | exact IS_0 (by fail) | exact IS_s (by assumption) ⟨by omega, by omega⟩ (by omega) (by omega) h16 h17 (by omega)) (by omega)) ⟨.inl rfl, .inl rfl, .inl rfl, .inl rfl, .inl rfl, .inl rfl, .inr ⟨rfl, trivial⟩, trivial⟩
          · skip
            replace c18 := hid c18
            refine go_retq PM19 (k := 1) (r := some (.inl 0)) (w1 := (SH, dt)) rfl ?_
            exact ⟨rfl, (Or.inr ⟨rfl, by first | exact IS_f1 (l := l3_5) (by omega) (by omega) (by fail) | exact IS_f2 (l := l3_5) (by omega) (by omega) ⟨by omega, by omega⟩ (by omega) h16 h17 (by (have z0_ := unhid c18; omega))⟩)⟩
  exact GO.le (loop12 _ p3 (by first | with_reducible assumption | fail | exact IS_0 (by fail) | exact IS_s (by assumption) ⟨by fail, by fail⟩ (by fail) (by fail) hI hI (by fail)) (by first | with_reducible assumption | omega | exact IS_0 (by fail) | exact IS_s (by assumption) ⟨by fail, by fail⟩ (by fail) (by fail) hI hI (by fail)) (by first | with_reducible assumption | fail | exact IS_0 (by omega) | exact IS_s (by assumption) ⟨by fail, by fail⟩ (by fail) (by fail) hI hI (by fail)) (Nat.lt_succ_self _)) ⟨.inl rfl, .inl rfl, .inl rfl, .inl rfl, .inl rfl, .inl rfl, .inl rfl, trivial⟩
theorem sp_X1_wordOf_1f (L : Nat) (xs : Nat → Int32) (sio : Option Nat) (d : Nat) (dt : Nat → Nat → Int) (hI : InvC dt)  (p2 : Int) (h_p2 : 0 ≤ p2 ∧ p2 ≤ 499) (p3 : Int) (h_p3 : 1 ≤ p3 ∧ p3 ≤ 500) (h_p0 : p2 ≤ p3) : GO (am_XX L xs sio) (d + 5) 18 0 [some (.inr (.inr (some 35))), some (.inr (.inr (some 1001))), some (.inl p2), some (.inl p3), none, none, none] [] (SH, dt) (fun r w2 => w2 = (SH, dt) ∧ ((∃ v : Int, r = some (.inl v) ∧ ((-1) ≤ v ∧ v ≤ 12) ∧ (v = wi wL (mB (fun j => am_and (dt 36 j) 255) (dt 35 1)) p2.toNat p3.toNat 0)))) := by
  have r1 : 0 ≤ dt 35 1 ∧ dt 35 1 ≤ 500 := InvC_get hI 35 1 rfl rfl
  refine go_toq PM18 (k := 6) (pc' := 9) (L' := [some (.inr (.inr (some 35))), some (.inr (.inr (some 1001))), some (.inl p2), some (.inl p3), some (.inl 0), some (.inl 0), some (.inl 0)]) (st' := []) (w' := (SH, dt)) rfl ?_
  have loop17 : ∀ (k_ : Nat) (l9_4 : Int) (l9_5 : Int) (l9_6 : Int) (i9 : 0 ≤ l9_4 ∧ l9_4 ≤ 12) (i10 : 0 ≤ l9_5 ∧ l9_5 ≤ 62) (i11 : 0 ≤ l9_6 ∧ l9_6 ≤ 62) (i12 : l9_4 = nb1.getD (l9_6).toNat 0) (i13 : l9_5 = sb1.getD (l9_6).toNat 0) (i14 : wi wL (mB (fun j => am_and (dt 36 j) 255) (dt 35 1)) p2.toNat p3.toNat 0 = wi (wL.drop (l9_4).toNat) (mB (fun j => am_and (dt 36 j) 255) (dt 35 1)) p2.toNat p3.toNat l9_4) (i15 : l9_4 ≤ l9_6) (i16 : l9_5 ≤ l9_6), (63 - l9_6).toNat < k_ → GO (am_XX L xs sio) (d + 5) 18 9 [some (.inr (.inr (some 35))), some (.inr (.inr (some 1001))), some (.inl p2), some (.inl p3), some (.inl l9_4), some (.inl l9_5), some (.inl l9_6)] [] (SH, dt) (fun r w2 => w2 = (SH, dt) ∧ ((∃ v : Int, r = some (.inl v) ∧ ((-1) ≤ v ∧ v ≤ 12) ∧ (v = wi wL (mB (fun j => am_and (dt 36 j) 255) (dt 35 1)) p2.toNat p3.toNat 0)))) := by
    intro k_
    induction k_ with
    | zero => intro l9_4 l9_5 l9_6 i9 i10 i11 i12 i13 i14 i15 i16 hm; exact absurd hm (Nat.not_lt_zero _)
    | succ k_ ih_loop17 =>
      intro l9_4 l9_5 l9_6 i9 i10 i11 i12 i13 i14 i15 i16 hm
      have q4 := i12
      have q5 := i13
      have q6 := i14
      refine go_toq PM18 (k := 2) (pc' := 12) (L' := [some (.inr (.inr (some 35))), some (.inr (.inr (some 1001))), some (.inl p2), some (.inl p3), some (.inl l9_4), some (.inl l9_5), some (.inl l9_6)]) (st' := [.inr (.inr (some 1001)), .inl l9_6]) (w' := (SH, dt)) rfl ?_
      refine go_callq PM18 PM249 (Q' := _) rfl rfl rfl rfl (sp_J0_length_8abf5_1001 L xs sio (d + 3) dt hI   ) ?_
      rintro _ _ ⟨rfl, h18⟩
      refine ⟨rfl, ?_⟩
      rcases h18 with ⟨rfl, h18⟩
      refine go_ifq PM18 (k := 0) (p1 := 70) (p2 := 18) (L' := [some (.inr (.inr (some 35))), some (.inr (.inr (some 1001))), some (.inl p2), some (.inl p3), some (.inl l9_4), some (.inl l9_5), some (.inl l9_6)]) (st' := []) (w' := (SH, dt)) rfl (c_ge (a := l9_6) (b := 62) (by first | exact bnd i11 (by decide) (by decide) | exact ⟨by fail, by fail⟩) ⟨by decide, by decide⟩) (fun c19 => ?_) (fun c19 => ?_)
      · skip
        refine go_retq PM18 (k := 1) (r := some (.inl (-1))) (w1 := (SH, dt)) rfl ?_
        exact ⟨rfl, ⟨_, rfl, ⟨by decide, by decide⟩, by first | exact (W1_m ⟨by fail, by fail⟩ hI (by fail) q4 q5 ⟨by fail, by fail⟩ q6).1 (by fail) hI | (have e : l9_6 = 62 := (by omega); subst e; rw [q6, q4]; rfl)⟩⟩
      · skip
        refine go_toq PM18 (k := 2) (pc' := 21) (L' := [some (.inr (.inr (some 35))), some (.inr (.inr (some 1001))), some (.inl p2), some (.inl p3), some (.inl l9_4), some (.inl l9_5), some (.inl l9_6)]) (st' := [.inl l9_6, .inr (.inr (some 1001))]) (w' := (SH, dt)) rfl ?_
        refine go_callq PM18 PM250 (Q' := _) rfl rfl rfl rfl (sp_J0_charAt_5068e_1f L xs sio (d + 1) dt hI  l9_6 (by first | exact bnd i11 (by decide) (by decide) | exact bndd i11 c19 (by decide) (by decide) | exact ⟨by fail, by fail⟩) ) ?_
        rintro _ _ ⟨rfl, h20⟩
        refine ⟨rfl, ?_⟩
        rcases h20 with ⟨v_h20, rfl, h20r, h20⟩
        refine go_ifq PM18 (k := 1) (p1 := 64) (p2 := 29) (L' := [some (.inr (.inr (some 35))), some (.inr (.inr (some 1001))), some (.inl p2), some (.inl p3), some (.inl l9_4), some (.inl l9_5), some (.inl l9_6)]) (st' := []) (w' := (SH, dt)) rfl (c_ne (a := v_h20) (b := 32) (by first | exact bnd h20r (by decide) (by decide) | exact ⟨by fail, by fail⟩) ⟨by decide, by decide⟩) (fun c21 => ?_) (fun c21 => ?_)
        · skip
          replace c21 := hid c21
          refine go_toq PM18 (k := 2) (pc' := 9) (L' := [some (.inr (.inr (some 35))), some (.inr (.inr (some 1001))), some (.inl p2), some (.inl p3), some (.inl l9_4), some (.inl l9_5), some (.inl (l9_6 + 1))]) (st' := []) (w' := (SH, dt)) rfl ?_
          exact GO.le (ih_loop17 l9_4 l9_5 (l9_6 + 1) (by first | omega | rfl | (rw [(W1_n ⟨by fail, by fail⟩ h20 (by fail)).1]; assumption) | (rw [(W1_n ⟨by fail, by fail⟩ h20 (by fail)).2]; assumption) | (have z := W1_b ⟨by fail, by fail⟩ h20 (by fail); fail) | assumption | exact (W1_m ⟨by fail, by fail⟩ h20 (by fail) q4 q5 ⟨by fail, by fail⟩ q6).2 (.inl (by fail)) | exact (W1_m ⟨by fail, by fail⟩ h20 (by fail) q4 q5 ⟨by fail, by fail⟩ q6).2 (.inr hI)) (by first | omega | rfl | (rw [(W1_n ⟨by fail, by fail⟩ h20 (by fail)).1]; assumption) | (rw [(W1_n ⟨by fail, by fail⟩ h20 (by fail)).2]; assumption) | (have z := W1_b ⟨by fail, by fail⟩ h20 (by fail); fail) | assumption | exact (W1_m ⟨by fail, by fail⟩ h20 (by fail) q4 q5 ⟨by fail, by fail⟩ q6).2 (.inl (by fail)) | exact (W1_m ⟨by fail, by fail⟩ h20 (by fail) q4 q5 ⟨by fail, by fail⟩ q6).2 (.inr hI)) (by first | omega | rfl | (rw [(W1_n ⟨by fail, by fail⟩ h20 (by fail)).1]; assumption) | (rw [(W1_n ⟨by fail, by fail⟩ h20 (by fail)).2]; assumption) | (have z := W1_b ⟨by fail, by fail⟩ h20 (by fail); fail) | assumption | exact (W1_m ⟨by fail, by fail⟩ h20 (by fail) q4 q5 ⟨by fail, by fail⟩ q6).2 (.inl (by fail)) | exact (W1_m ⟨by fail, by fail⟩ h20 (by fail) q4 q5 ⟨by fail, by fail⟩ q6).2 (.inr hI)) (by first | fail | rfl | (rw [(W1_n ⟨by omega, by omega⟩ h20 (by (have z0_ := unhid c21; omega))).1]; assumption) | (rw [(W1_n ⟨by fail, by fail⟩ h20 (by fail)).2]; assumption) | (have z := W1_b ⟨by fail, by fail⟩ h20 (by fail); fail) | assumption | exact (W1_m ⟨by fail, by fail⟩ h20 (by fail) q4 q5 ⟨by fail, by fail⟩ q6).2 (.inl (by fail)) | exact (W1_m ⟨by fail, by fail⟩ h20 (by fail) q4 q5 ⟨by fail, by fail⟩ q6).2 (.inr hI)) (by first | fail | rfl | (rw [(W1_n ⟨by fail, by fail⟩ h20 (by fail)).1]; assumption) | (rw [(W1_n ⟨by omega, by omega⟩ h20 (by (have z0_ := unhid c21; omega))).2]; assumption) | (have z := W1_b ⟨by fail, by fail⟩ h20 (by fail); fail) | assumption | exact (W1_m ⟨by fail, by fail⟩ h20 (by fail) q4 q5 ⟨by fail, by fail⟩ q6).2 (.inl (by fail)) | exact (W1_m ⟨by fail, by fail⟩ h20 (by fail) q4 q5 ⟨by fail, by fail⟩ q6).2 (.inr hI)) (by first | omega | rfl | (rw [(W1_n ⟨by fail, by fail⟩ h20 (by fail)).1]; assumption) | (rw [(W1_n ⟨by fail, by fail⟩ h20 (by fail)).2]; assumption) | (have z := W1_b ⟨by fail, by fail⟩ h20 (by fail); fail) | assumption | exact (W1_m ⟨by fail, by fail⟩ h20 (by fail) q4 q5 ⟨by fail, by fail⟩ q6).2 (.inl (by fail)) | exact (W1_m ⟨by fail, by fail⟩ h20 (by fail) q4 q5 ⟨by fail, by fail⟩ q6).2 (.inr hI)) (by first | omega | rfl | (rw [(W1_n ⟨by fail, by fail⟩ h20 (by fail)).1]; assumption) | (rw [(W1_n ⟨by fail, by fail⟩ h20 (by fail)).2]; assumption) | (have z := W1_b ⟨by fail, by fail⟩ h20 (by fail); fail) | assumption | exact (W1_m ⟨by fail, by fail⟩ h20 (by fail) q4 q5 ⟨by fail, by fail⟩ q6).2 (.inl (by fail)) | exact (W1_m ⟨by fail, by fail⟩ h20 (by fail) q4 q5 ⟨by fail, by fail⟩ q6).2 (.inr hI)) (by first | omega | rfl | (rw [(W1_n ⟨by fail, by fail⟩ h20 (by fail)).1]; assumption) | (rw [(W1_n ⟨by fail, by fail⟩ h20 (by fail)).2]; assumption) | (have z := W1_b ⟨by fail, by fail⟩ h20 (by fail); fail) | assumption | exact (W1_m ⟨by fail, by fail⟩ h20 (by fail) q4 q5 ⟨by fail, by fail⟩ q6).2 (.inl (by fail)) | exact (W1_m ⟨by fail, by fail⟩ h20 (by fail) q4 q5 ⟨by fail, by fail⟩ q6).2 (.inr hI)) (by omega)) ⟨.inl rfl, .inl rfl, .inl rfl, .inl rfl, .inl rfl, .inl rfl, .inl rfl, trivial⟩
        · skip
          refine go_ifq PM18 (k := 6) (p1 := 55) (p2 := 40) (L' := [some (.inr (.inr (some 35))), some (.inr (.inr (some 1001))), some (.inl p2), some (.inl p3), some (.inl l9_4), some (.inl l9_5), some (.inl l9_6)]) (st' := []) (w' := (SH, dt)) rfl (c_ne (a := l9_6 - l9_5) (b := p3 - p2) ⟨by omega, by omega⟩ ⟨by omega, by omega⟩) (fun c22 => ?_) (fun c22 => ?_)
          · skip
            replace c22 := hid c22
            refine go_toq PM18 (k := 7) (pc' := 9) (L' := [some (.inr (.inr (some 35))), some (.inr (.inr (some 1001))), some (.inl p2), some (.inl p3), some (.inl (l9_4 + 1)), some (.inl (l9_6 + 1)), some (.inl (l9_6 + 1))]) (st' := []) (w' := (SH, dt)) rfl ?_
            exact GO.le (ih_loop17 (l9_4 + 1) (l9_6 + 1) (l9_6 + 1) (by first | fail | rfl | (rw [(W1_n ⟨by fail, by fail⟩ h20 (by fail)).1]; assumption) | (rw [(W1_n ⟨by fail, by fail⟩ h20 (by fail)).2]; assumption) | (have z := W1_b ⟨by omega, by omega⟩ h20 (by omega); omega) | assumption | exact (W1_m ⟨by fail, by fail⟩ h20 (by fail) q4 q5 ⟨by fail, by fail⟩ q6).2 (.inl (by fail)) | exact (W1_m ⟨by fail, by fail⟩ h20 (by fail) q4 q5 ⟨by fail, by fail⟩ q6).2 (.inr hI)) (by first | omega | rfl | (rw [(W1_n ⟨by fail, by fail⟩ h20 (by fail)).1]; assumption) | (rw [(W1_n ⟨by fail, by fail⟩ h20 (by fail)).2]; assumption) | (have z := W1_b ⟨by fail, by fail⟩ h20 (by fail); fail) | assumption | exact (W1_m ⟨by fail, by fail⟩ h20 (by fail) q4 q5 ⟨by fail, by fail⟩ q6).2 (.inl (by fail)) | exact (W1_m ⟨by fail, by fail⟩ h20 (by fail) q4 q5 ⟨by fail, by fail⟩ q6).2 (.inr hI)) (by first | omega | rfl | (rw [(W1_n ⟨by fail, by fail⟩ h20 (by fail)).1]; assumption) | (rw [(W1_n ⟨by fail, by fail⟩ h20 (by fail)).2]; assumption) | (have z := W1_b ⟨by fail, by fail⟩ h20 (by fail); fail) | assumption | exact (W1_m ⟨by fail, by fail⟩ h20 (by fail) q4 q5 ⟨by fail, by fail⟩ q6).2 (.inl (by fail)) | exact (W1_m ⟨by fail, by fail⟩ h20 (by fail) q4 q5 ⟨by fail, by fail⟩ q6).2 (.inr hI)) (by first | fail | rfl | (rw [(W1_n ⟨by omega, by omega⟩ h20 (by fail)).1]; assumption) | (rw [(W1_n ⟨by fail, by fail⟩ h20 (by fail)).2]; assumption) | (have z := W1_b ⟨by omega, by omega⟩ h20 (by omega); omega) | assumption | exact (W1_m ⟨by fail, by fail⟩ h20 (by fail) q4 q5 ⟨by fail, by fail⟩ q6).2 (.inl (by fail)) | exact (W1_m ⟨by fail, by fail⟩ h20 (by fail) q4 q5 ⟨by fail, by fail⟩ q6).2 (.inr hI)) (by first | fail | rfl | (rw [(W1_n ⟨by fail, by fail⟩ h20 (by fail)).1]; assumption) | (rw [(W1_n ⟨by omega, by omega⟩ h20 (by fail)).2]; assumption) | (have z := W1_b ⟨by omega, by omega⟩ h20 (by omega); omega) | assumption | exact (W1_m ⟨by fail, by fail⟩ h20 (by fail) q4 q5 ⟨by fail, by fail⟩ q6).2 (.inl (by fail)) | exact (W1_m ⟨by fail, by fail⟩ h20 (by fail) q4 q5 ⟨by fail, by fail⟩ q6).2 (.inr hI)) (by first | fail | rfl | (rw [(W1_n ⟨by fail, by fail⟩ h20 (by fail)).1]; assumption) | (rw [(W1_n ⟨by fail, by fail⟩ h20 (by fail)).2]; assumption) | (have z := W1_b ⟨by omega, by omega⟩ h20 (by omega); fail) | assumption | exact (W1_m ⟨by omega, by omega⟩ h20 (by omega) q4 q5 ⟨by omega, by omega⟩ q6).2 (.inl (by (have z0_ := unhid c22; omega))) | exact (W1_m ⟨by fail, by fail⟩ h20 (by fail) q4 q5 ⟨by fail, by fail⟩ q6).2 (.inr hI)) (by first | omega | rfl | (rw [(W1_n ⟨by fail, by fail⟩ h20 (by fail)).1]; assumption) | (rw [(W1_n ⟨by fail, by fail⟩ h20 (by fail)).2]; assumption) | (have z := W1_b ⟨by fail, by fail⟩ h20 (by fail); fail) | assumption | exact (W1_m ⟨by fail, by fail⟩ h20 (by fail) q4 q5 ⟨by fail, by fail⟩ q6).2 (.inl (by fail)) | exact (W1_m ⟨by fail, by fail⟩ h20 (by fail) q4 q5 ⟨by fail, by fail⟩ q6).2 (.inr hI)) (by first | omega | rfl | (rw [(W1_n ⟨by fail, by fail⟩ h20 (by fail)).1]; assumption) | (rw [(W1_n ⟨by fail, by fail⟩ h20 (by fail)).2]; assumption) | (have z := W1_b ⟨by fail, by fail⟩ h20 (by fail); fail) | assumption | exact (W1_m ⟨by fail, by fail⟩ h20 (by fail) q4 q5 ⟨by fail, by fail⟩ q6).2 (.inl (by fail)) | exact (W1_m ⟨by fail, by fail⟩ h20 (by fail) q4 q5 ⟨by fail, by fail⟩ q6).2 (.inr hI)) (by omega)) ⟨.inl rfl, .inl rfl, .inl rfl, .inl rfl, .inl rfl, .inl rfl, .inl rfl, trivial⟩
          · skip
            refine go_toq PM18 (k := 5) (pc' := 46) (L' := [some (.inr (.inr (some 35))), some (.inr (.inr (some 1001))), some (.inl p2), some (.inl p3), some (.inl l9_4), some (.inl l9_5), some (.inl l9_6)]) (st' := [.inl p3, .inl p2, .inl l9_5, .inr (.inr (some 1001)), .inr (.inr (some 35))]) (w' := (SH, dt)) rfl ?_
            refine go_callq PM18 PM19 (Q' := _) rfl rfl rfl rfl (sp_X1_isSame_1f L xs sio (d + 0) dt hI  l9_5 (by first | exact bnd i10 (by decide) (by decide) | exact ⟨by fail, by fail⟩) p2 (by first | exact h_p2 | exact bnd h_p2 (by decide) (by decide) | exact ⟨by fail, by fail⟩) p3 (by first | exact h_p3 | exact bnd h_p3 (by decide) (by decide) | exact ⟨by fail, by fail⟩) ) ?_
            rintro _ _ ⟨rfl, h23⟩
            refine ⟨rfl, ?_⟩
            rcases h23 with ⟨rfl, h23⟩ | ⟨rfl, h23⟩
            · skip
              refine go_retq PM18 (k := 2) (r := some (.inl l9_4)) (w1 := (SH, dt)) rfl ?_
              exact ⟨rfl, ⟨_, rfl, (by first | exact bnd i9 (by decide) (by decide) | exact ⟨by fail, by fail⟩), by first | exact (W1_m ⟨by omega, by omega⟩ h20 (by omega) q4 q5 ⟨by omega, by omega⟩ q6).1 (by omega) h23 | (have e : l9_6 = 62 := (by fail); subst e; rw [q6, q4]; rfl)⟩⟩
            · skip
              refine go_toq PM18 (k := 8) (pc' := 9) (L' := [some (.inr (.inr (some 35))), some (.inr (.inr (some 1001))), some (.inl p2), some (.inl p3), some (.inl (l9_4 + 1)), some (.inl (l9_6 + 1)), some (.inl (l9_6 + 1))]) (st' := []) (w' := (SH, dt)) rfl ?_
              exact GO.le (ih_loop17 (l9_4 + 1) (l9_6 + 1) (l9_6 + 1) (by first | fail | rfl | (rw [(W1_n ⟨by fail, by fail⟩ h20 (by fail)).1]; assumption) | (rw [(W1_n ⟨by fail, by fail⟩ h20 (by fail)).2]; assumption) | (have z := W1_b ⟨by omega, by omega⟩ h20 (by omega); omega) | assumption | exact (W1_m ⟨by fail, by fail⟩ h20 (by fail) q4 q5 ⟨by fail, by fail⟩ q6).2 (.inl (by fail)) | exact (W1_m ⟨by fail, by fail⟩ h20 (by fail) q4 q5 ⟨by fail, by fail⟩ q6).2 (.inr h23)) (by first | omega | rfl | (rw [(W1_n ⟨by fail, by fail⟩ h20 (by fail)).1]; assumption) | (rw [(W1_n ⟨by fail, by fail⟩ h20 (by fail)).2]; assumption) | (have z := W1_b ⟨by fail, by fail⟩ h20 (by fail); fail) | assumption | exact (W1_m ⟨by fail, by fail⟩ h20 (by fail) q4 q5 ⟨by fail, by fail⟩ q6).2 (.inl (by fail)) | exact (W1_m ⟨by fail, by fail⟩ h20 (by fail) q4 q5 ⟨by fail, by fail⟩ q6).2 (.inr h23)) (by first | omega | rfl | (rw [(W1_n ⟨by fail, by fail⟩ h20 (by fail)).1]; assumption) | (rw [(W1_n ⟨by fail, by fail⟩ h20 (by fail)).2]; assumption) | (have z := W1_b ⟨by fail, by fail⟩ h20 (by fail); fail) | assumption | exact (W1_m ⟨by fail, by fail⟩ h20 (by fail) q4 q5 ⟨by fail, by fail⟩ q6).2 (.inl (by fail)) | exact (W1_m ⟨by fail, by fail⟩ h20 (by fail) q4 q5 ⟨by fail, by fail⟩ q6).2 (.inr h23)) (by first | fail | rfl | (rw [(W1_n ⟨by omega, by omega⟩ h20 (by fail)).1]; assumption) | (rw [(W1_n ⟨by fail, by fail⟩ h20 (by fail)).2]; assumption) | (have z := W1_b ⟨by omega, by omega⟩ h20 (by omega); omega) | assumption | exact (W1_m ⟨by fail, by fail⟩ h20 (by fail) q4 q5 ⟨by fail, by fail⟩ q6).2 (.inl (by fail)) | exact (W1_m ⟨by fail, by fail⟩ h20 (by fail) q4 q5 ⟨by fail, by fail⟩ q6).2 (.inr h23)) (by first | fail | rfl | (rw [(W1_n ⟨by fail, by fail⟩ h20 (by fail)).1]; assumption) | (rw [(W1_n ⟨by omega, by omega⟩ h20 (by fail)).2]; assumption) | (have z := W1_b ⟨by omega, by omega⟩ h20 (by omega); omega) | assumption | exact (W1_m ⟨by fail, by fail⟩ h20 (by fail) q4 q5 ⟨by fail, by fail⟩ q6).2 (.inl (by fail)) | exact (W1_m ⟨by fail, by fail⟩ h20 (by fail) q4 q5 ⟨by fail, by fail⟩ q6).2 (.inr h23)) (by first | fail | rfl | (rw [(W1_n ⟨by fail, by fail⟩ h20 (by fail)).1]; assumption) | (rw [(W1_n ⟨by fail, by fail⟩ h20 (by fail)).2]; assumption) | (have z := W1_b ⟨by omega, by omega⟩ h20 (by omega); fail) | assumption | exact (W1_m ⟨by omega, by omega⟩ h20 (by omega) q4 q5 ⟨by omega, by omega⟩ q6).2 (.inl (by fail)) | exact (W1_m ⟨by omega, by omega⟩ h20 (by omega) q4 q5 ⟨by omega, by omega⟩ q6).2 (.inr h23)) (by first | omega | rfl | (rw [(W1_n ⟨by fail, by fail⟩ h20 (by fail)).1]; assumption) | (rw [(W1_n ⟨by fail, by fail⟩ h20 (by fail)).2]; assumption) | (have z := W1_b ⟨by fail, by fail⟩ h20 (by fail); fail) | assumption | exact (W1_m ⟨by fail, by fail⟩ h20 (by fail) q4 q5 ⟨by fail, by fail⟩ q6).2 (.inl (by fail)) | exact (W1_m ⟨by fail, by fail⟩ h20 (by fail) q4 q5 ⟨by fail, by fail⟩ q6).2 (.inr h23)) (by first | omega | rfl | (rw [(W1_n ⟨by fail, by fail⟩ h20 (by fail)).1]; assumption) | (rw [(W1_n ⟨by fail, by fail⟩ h20 (by fail)).2]; assumption) | (have z := W1_b ⟨by fail, by fail⟩ h20 (by fail); fail) | assumption | exact (W1_m ⟨by fail, by fail⟩ h20 (by fail) q4 q5 ⟨by fail, by fail⟩ q6).2 (.inl (by fail)) | exact (W1_m ⟨by fail, by fail⟩ h20 (by fail) q4 q5 ⟨by fail, by fail⟩ q6).2 (.inr h23)) (by omega)) ⟨.inl rfl, .inl rfl, .inl rfl, .inl rfl, .inl rfl, .inl rfl, .inl rfl, trivial⟩
  exact GO.le (loop17 _ 0 0 0 (by first | omega | rfl | (rw [(W1_n ⟨by fail, by fail⟩ hI (by fail)).1]; assumption) | (rw [(W1_n ⟨by fail, by fail⟩ hI (by fail)).2]; assumption) | (have z := W1_b ⟨by fail, by fail⟩ hI (by fail); fail) | assumption | exact (W1_m ⟨by fail, by fail⟩ hI (by fail) q4 q5 ⟨by fail, by fail⟩ q6).2 (.inl (by fail)) | exact (W1_m ⟨by fail, by fail⟩ hI (by fail) q4 q5 ⟨by fail, by fail⟩ q6).2 (.inr hI)) (by first | omega | rfl | (rw [(W1_n ⟨by fail, by fail⟩ hI (by fail)).1]; assumption) | (rw [(W1_n ⟨by fail, by fail⟩ hI (by fail)).2]; assumption) | (have z := W1_b ⟨by fail, by fail⟩ hI (by fail); fail) | assumption | exact (W1_m ⟨by fail, by fail⟩ hI (by fail) q4 q5 ⟨by fail, by fail⟩ q6).2 (.inl (by fail)) | exact (W1_m ⟨by fail, by fail⟩ hI (by fail) q4 q5 ⟨by fail, by fail⟩ q6).2 (.inr hI)) (by first | omega | rfl | (rw [(W1_n ⟨by fail, by fail⟩ hI (by fail)).1]; assumption) | (rw [(W1_n ⟨by fail, by fail⟩ hI (by fail)).2]; assumption) | (have z := W1_b ⟨by fail, by fail⟩ hI (by fail); fail) | assumption | exact (W1_m ⟨by fail, by fail⟩ hI (by fail) q4 q5 ⟨by fail, by fail⟩ q6).2 (.inl (by fail)) | exact (W1_m ⟨by fail, by fail⟩ hI (by fail) q4 q5 ⟨by fail, by fail⟩ q6).2 (.inr hI)) (by first | fail | rfl | (rw [(W1_n ⟨by fail, by fail⟩ hI (by fail)).1]; assumption) | (rw [(W1_n ⟨by fail, by fail⟩ hI (by fail)).2]; assumption) | (have z := W1_b ⟨by fail, by fail⟩ hI (by fail); fail) | assumption | exact (W1_m ⟨by fail, by fail⟩ hI (by fail) q4 q5 ⟨by fail, by fail⟩ q6).2 (.inl (by fail)) | exact (W1_m ⟨by fail, by fail⟩ hI (by fail) q4 q5 ⟨by fail, by fail⟩ q6).2 (.inr hI)) (by first | fail | rfl | (rw [(W1_n ⟨by fail, by fail⟩ hI (by fail)).1]; assumption) | (rw [(W1_n ⟨by fail, by fail⟩ hI (by fail)).2]; assumption) | (have z := W1_b ⟨by fail, by fail⟩ hI (by fail); fail) | assumption | exact (W1_m ⟨by fail, by fail⟩ hI (by fail) q4 q5 ⟨by fail, by fail⟩ q6).2 (.inl (by fail)) | exact (W1_m ⟨by fail, by fail⟩ hI (by fail) q4 q5 ⟨by fail, by fail⟩ q6).2 (.inr hI)) (by first | fail | rfl | (rw [(W1_n ⟨by fail, by fail⟩ hI (by fail)).1]; assumption) | (rw [(W1_n ⟨by fail, by fail⟩ hI (by fail)).2]; assumption) | (have z := W1_b ⟨by fail, by fail⟩ hI (by fail); fail) | assumption | exact (W1_m ⟨by fail, by fail⟩ hI (by fail) q4 q5 ⟨by fail, by fail⟩ q6).2 (.inl (by fail)) | exact (W1_m ⟨by fail, by fail⟩ hI (by fail) q4 q5 ⟨by fail, by fail⟩ q6).2 (.inr hI)) (by first | omega | rfl | (rw [(W1_n ⟨by fail, by fail⟩ hI (by fail)).1]; assumption) | (rw [(W1_n ⟨by fail, by fail⟩ hI (by fail)).2]; assumption) | (have z := W1_b ⟨by fail, by fail⟩ hI (by fail); fail) | assumption | exact (W1_m ⟨by fail, by fail⟩ hI (by fail) q4 q5 ⟨by fail, by fail⟩ q6).2 (.inl (by fail)) | exact (W1_m ⟨by fail, by fail⟩ hI (by fail) q4 q5 ⟨by fail, by fail⟩ q6).2 (.inr hI)) (by first | omega | rfl | (rw [(W1_n ⟨by fail, by fail⟩ hI (by fail)).1]; assumption) | (rw [(W1_n ⟨by fail, by fail⟩ hI (by fail)).2]; assumption) | (have z := W1_b ⟨by fail, by fail⟩ hI (by fail); fail) | assumption | exact (W1_m ⟨by fail, by fail⟩ hI (by fail) q4 q5 ⟨by fail, by fail⟩ q6).2 (.inl (by fail)) | exact (W1_m ⟨by fail, by fail⟩ hI (by fail) q4 q5 ⟨by fail, by fail⟩ q6).2 (.inr hI)) (Nat.lt_succ_self _)) ⟨.inl rfl, .inl rfl, .inl rfl, .inl rfl, .inl rfl, .inl rfl, .inl rfl, trivial⟩
theorem sp_J1_indexOfChar_4cfef_f (L : Nat) (xs : Nat → Int32) (sio : Option Nat) (d : Nat) (dt : Nat → Nat → Int) (hI : InvC dt)  (p2 : Int) (h_p2 : 0 ≤ p2 ∧ p2 ≤ 255) (p3 : Int) (h_p3 : 0 ≤ p3 ∧ p3 ≤ 0) (p4 : Int) (h_p4 : 10 ≤ p4 ∧ p4 ≤ 10)  : GO (am_XX L xs sio) (d) 259 0 [some (.inr (.inr (some 2002))), some (.inl p2), some (.inl p3), some (.inl p4), none, none] [] (SH, dt) (fun r w2 => w2 = (SH, dt) ∧ ((∃ v : Int, r = some (.inl v) ∧ (0 ≤ v ∧ v ≤ 9) ∧ (am_i2b p2 = (am_Sby.getD 2 []).getD v.toNat 0)) ∨ (r = some (.inl (-1)) ∧ (∀ j : Nat, j < 10 → ¬ (am_Sby.getD 2 []).getD j 0 = am_i2b p2)))) := by
  have r1 := i2b_R p2
  refine go_toq PM259 (k := 5) (pc' := 7) (L' := [some (.inr (.inr (some 2002))), some (.inl p2), some (.inl p3), some (.inl p4), some (.inl (am_i2b p2)), some (.inl p3)]) (st' := []) (w' := (SH, dt)) rfl ?_
  have loop8 : ∀ (k_ : Nat) (l7_5 : Int) (i6 : 0 ≤ l7_5 ∧ l7_5 ≤ 10) (i7 : ∀ j : Nat, (j : Int) < l7_5 → ¬ (am_Sby.getD 2 []).getD j 0 = am_i2b p2), (11 - l7_5).toNat < k_ → GO (am_XX L xs sio) (d) 259 7 [some (.inr (.inr (some 2002))), none, none, some (.inl p4), some (.inl (am_i2b p2)), some (.inl l7_5)] [] (SH, dt) (fun r w2 => w2 = (SH, dt) ∧ ((∃ v : Int, r = some (.inl v) ∧ (0 ≤ v ∧ v ≤ 9) ∧ (am_i2b p2 = (am_Sby.getD 2 []).getD v.toNat 0)) ∨ (r = some (.inl (-1)) ∧ (∀ j : Nat, j < 10 → ¬ (am_Sby.getD 2 []).getD j 0 = am_i2b p2)))) := by
    intro k_
    induction k_ with
    | zero => intro l7_5 i6 i7 hm; exact absurd hm (Nat.not_lt_zero _)
    | succ k_ ih_loop8 =>
      intro l7_5 i6 i7 hm
      have q1 := i7
      refine go_ifq PM259 (k := 2) (p1 := 31) (p2 := 13) (L' := [some (.inr (.inr (some 2002))), none, none, some (.inl p4), some (.inl (am_i2b p2)), some (.inl l7_5)]) (st' := []) (w' := (SH, dt)) rfl (c_ge (a := l7_5) (b := p4) (by first | exact bnd i6 (by decide) (by decide) | exact ⟨by fail, by fail⟩) (by first | exact bnd h_p4 (by decide) (by decide) | exact ⟨by fail, by fail⟩)) (fun c9 => ?_) (fun c9 => ?_)
      · skip
        refine go_retq PM259 (k := 1) (r := some (.inl (-1))) (w1 := (SH, dt)) rfl ?_
        first | exact ⟨rfl, (Or.inl ⟨_, rfl, ⟨by decide, by decide⟩, by fail⟩)⟩ | exact ⟨rfl, (Or.inr ⟨rfl, by intro j hj; exact q1 j (by omega)⟩)⟩
      · skip
        refine go_toq PM259 (k := 2) (pc' := 16) (L' := [some (.inr (.inr (some 2002))), none, none, some (.inl p4), some (.inl (am_i2b p2)), some (.inl l7_5)]) (st' := [.inl l7_5, .inr (.inr (some 2002))]) (w' := (SH, dt)) rfl ?_
        have r10 := sby_R 2 (l7_5).toNat
        refine go_smpq PM259 (L' := [some (.inr (.inr (some 2002))), none, none, some (.inl p4), some (.inl (am_i2b p2)), some (.inl l7_5)]) (st' := [.inl ((am_Sby.getD 2 []).getD (l7_5).toNat 0)]) (w' := (SH, dt)) rfl rfl (s_bald (n := 10) (f := fun q => (am_Sby.getD 2 []).getD q 0) rfl (by first | exact bndc i6 c9 (by decide) (by decide) | exact bndx i6 (by decide) (by decide) | exact ⟨by omega, by omega⟩)) ?_
        refine go_ifq PM259 (k := 1) (p1 := 25) (p2 := 22) (L' := [some (.inr (.inr (some 2002))), none, none, some (.inl p4), some (.inl (am_i2b p2)), some (.inl l7_5)]) (st' := []) (w' := (SH, dt)) rfl (c_ne (a := (am_Sby.getD 2 []).getD (l7_5).toNat 0) (b := am_i2b p2) ⟨by omega, by omega⟩ ⟨by omega, by omega⟩) (fun c11 => ?_) (fun c11 => ?_)
        · skip
          replace c11 := hid c11
          refine go_toq PM259 (k := 2) (pc' := 7) (L' := [some (.inr (.inr (some 2002))), none, none, some (.inl p4), some (.inl (am_i2b p2)), some (.inl (l7_5 + 1))]) (st' := []) (w' := (SH, dt)) rfl ?_
          exact GO.le (ih_loop8 (l7_5 + 1) (by first | omega | (intro j hj; fail) | exact NI_s (by assumption) (by fail) (by assumption)) (by first | fail | (intro j hj; fail) | exact NI_s (by assumption) (by omega) (by assumption)) (by omega)) ⟨.inl rfl, .inl rfl, .inl rfl, .inl rfl, .inl rfl, .inl rfl, trivial⟩
        · skip
          refine go_retq PM259 (k := 1) (r := some (.inl l7_5)) (w1 := (SH, dt)) rfl ?_
          exact ⟨rfl, (Or.inl ⟨_, rfl, (by first | exact bnd i6 (by decide) (by decide) | exact bndd i6 c9 (by decide) (by decide) | exact ⟨by omega, by omega⟩), by omega⟩)⟩
  exact GO.le (loop8 _ p3 (by first | omega | (intro j hj; fail) | exact NI_s (by assumption) (by fail) (by assumption)) (by first | omega | (intro j hj; fail) | exact NI_s (by assumption) (by fail) (by assumption)) (Nat.lt_succ_self _)) ⟨.inl rfl, .inr ⟨rfl, trivial⟩, .inr ⟨rfl, trivial⟩, .inl rfl, .inl rfl, .inl rfl, trivial⟩
theorem sp_J1_canEncode_9a6ad_f (L : Nat) (xs : Nat → Int32) (sio : Option Nat) (d : Nat) (dt : Nat → Nat → Int) (hI : InvC dt)  (p1 : Int) (h_p1 : (-2147483648) ≤ p1 ∧ p1 ≤ 2147483647)  : GO (am_XX L xs sio) (d) 257 0 [some (.inl p1)] [] (SH, dt) (fun r w2 => w2 = (SH, dt) ∧ ((r = some (.inl 1) ∧ (0 ≤ p1 ∧ p1 ≤ 255)) ∨ (r = some (.inl 0) ∧ (¬ (0 ≤ p1 ∧ p1 ≤ 255))))) := by
  refine go_ifq PM257 (k := 1) (p1 := 15) (p2 := 4) (L' := [some (.inl p1)]) (st' := []) (w' := (SH, dt)) rfl (z_lt (a := p1) (by first | exact bnd h_p1 (by decide) (by decide) | exact ⟨by fail, by fail⟩)) (fun c1 => ?_) (fun c1 => ?_)
  · skip
    refine go_retq PM257 (k := 1) (r := some (.inl 0)) (w1 := (SH, dt)) rfl ?_
    exact ⟨rfl, (Or.inr ⟨rfl, by first | exact True.intro | with_reducible assumption | rfl | omega | trivial⟩)⟩
  · skip
    refine go_ifq PM257 (k := 2) (p1 := 15) (p2 := 11) (L' := [some (.inl p1)]) (st' := []) (w' := (SH, dt)) rfl (c_gt (a := p1) (b := 255) (by first | exact bnd h_p1 (by decide) (by decide) | exact ⟨by fail, by fail⟩) ⟨by decide, by decide⟩) (fun c2 => ?_) (fun c2 => ?_)
    · skip
      refine go_retq PM257 (k := 1) (r := some (.inl 0)) (w1 := (SH, dt)) rfl ?_
      exact ⟨rfl, (Or.inr ⟨rfl, by first | exact True.intro | with_reducible assumption | rfl | omega | trivial⟩)⟩
    · skip
      refine go_retq PM257 (k := 2) (r := some (.inl 1)) (w1 := (SH, dt)) rfl ?_
      exact ⟨rfl, (Or.inl ⟨rfl, by first | exact True.intro | with_reducible assumption | rfl | omega | trivial⟩)⟩
theorem sp_J1_indexOf_4cfef_f (L : Nat) (xs : Nat → Int32) (sio : Option Nat) (d : Nat) (dt : Nat → Nat → Int) (hI : InvC dt)  (p2 : Int) (h_p2 : 0 ≤ p2 ∧ p2 ≤ 255)  : GO (am_XX L xs sio) (d + 1) 258 0 [some (.inr (.inr (some 2002))), some (.inl p2), some (.inl 0), some (.inl 10)] [] (SH, dt) (fun r w2 => w2 = (SH, dt) ∧ ((∃ v : Int, r = some (.inl v) ∧ (0 ≤ v ∧ v ≤ 9) ∧ (am_i2b p2 = (am_Sby.getD 2 []).getD v.toNat 0)) ∨ (r = some (.inl (-1)) ∧ (∀ j : Nat, j < 10 → ¬ (am_Sby.getD 2 []).getD j 0 = am_i2b p2)))) := by
  refine go_toq PM258 (k := 1) (pc' := 1) (L' := [some (.inr (.inr (some 2002))), some (.inl p2), some (.inl 0), some (.inl 10)]) (st' := [.inl p2]) (w' := (SH, dt)) rfl ?_
  refine go_callq PM258 PM257 (Q' := _) rfl rfl rfl rfl (sp_J1_canEncode_9a6ad_f L xs sio (d + 0) dt hI  p2 (by first | exact h_p2 | exact bnd h_p2 (by decide) (by decide) | exact ⟨by fail, by fail⟩) ) ?_
  rintro _ _ ⟨rfl, h1⟩
  refine ⟨rfl, ?_⟩
  rcases h1 with ⟨rfl, h1⟩ | ⟨rfl, h1⟩
  · skip
    refine go_toq PM258 (k := 3) (pc' := 11) (L' := [some (.inr (.inr (some 2002))), some (.inl p2), some (.inl 0), some (.inl 10)]) (st' := [.inl 0, .inl 0]) (w' := (SH, dt)) rfl ?_
    refine go_callq PM258 PM265 (Q' := _) rfl rfl rfl rfl (sp_J9_max_7cf53 L xs sio (d + 0) dt hI  0 ⟨by decide, by decide⟩ 0 ⟨by decide, by decide⟩ ) ?_
    rintro _ _ ⟨rfl, h2⟩
    refine ⟨rfl, ?_⟩
    rcases h2 with ⟨v_h2, rfl, h2r, h2⟩
    refine go_toq PM258 (k := 4) (pc' := 18) (L' := [some (.inr (.inr (some 2002))), some (.inl p2), some (.inl v_h2), some (.inl 10)]) (st' := [.inl 10, .inl 10]) (w' := (SH, dt)) rfl ?_
    refine go_callq PM258 PM266 (Q' := _) rfl rfl rfl rfl (sp_J9_min_7cf53 L xs sio (d + 0) dt hI  10 ⟨by decide, by decide⟩ 10 ⟨by decide, by decide⟩ ) ?_
    rintro _ _ ⟨rfl, h3⟩
    refine ⟨rfl, ?_⟩
    rcases h3 with ⟨v_h3, rfl, h3r, h3⟩
    refine go_ifq PM258 (k := 3) (p1 := 29) (p2 := 27) (L' := [some (.inr (.inr (some 2002))), some (.inl p2), some (.inl v_h2), some (.inl v_h3)]) (st' := []) (w' := (SH, dt)) rfl (c_lt (a := v_h2) (b := v_h3) (by first | exact bnd h2r (by decide) (by decide) | exact ⟨by fail, by fail⟩) (by first | exact bnd h3r (by decide) (by decide) | exact ⟨by fail, by fail⟩)) (fun c4 => ?_) (fun c4 => ?_)
    · skip
      refine go_toq PM258 (k := 4) (pc' := 33) (L' := [some (.inr (.inr (some 2002))), some (.inl p2), some (.inl v_h2), some (.inl v_h3)]) (st' := [.inl v_h3, .inl v_h2, .inl p2, .inr (.inr (some 2002))]) (w' := (SH, dt)) rfl ?_
      refine go_callq PM258 PM259 (Q' := _) rfl rfl rfl rfl (sp_J1_indexOfChar_4cfef_f L xs sio (d + 0) dt hI  p2 (by first | exact h_p2 | exact bnd h_p2 (by decide) (by decide) | exact ⟨by fail, by fail⟩) v_h2 (by first | exact bnd h2r (by decide) (by decide) | exact ⟨by omega, by omega⟩) v_h3 (by first | exact bnd h3r (by decide) (by decide) | exact ⟨by omega, by omega⟩) ) ?_
      rintro _ _ ⟨rfl, h5⟩
      refine ⟨rfl, ?_⟩
      rcases h5 with ⟨v_h5, rfl, h5r, h5⟩ | ⟨rfl, h5⟩
      · skip
        refine go_retq PM258 (k := 0) (r := some (.inl v_h5)) (w1 := (SH, dt)) rfl ?_
        exact ⟨rfl, (Or.inl ⟨_, rfl, (by first | exact bnd h5r (by decide) (by decide) | exact ⟨by fail, by fail⟩), by assumption⟩)⟩
      · skip
        refine go_retq PM258 (k := 0) (r := some (.inl (-1))) (w1 := (SH, dt)) rfl ?_
        first | exact ⟨rfl, (Or.inl ⟨_, rfl, ⟨by decide, by decide⟩, by assumption⟩)⟩ | exact ⟨rfl, (Or.inr ⟨rfl, by first | assumption | (exfalso; fail)⟩)⟩
    · exfalso; omega
  · skip
    refine go_retq PM258 (k := 2) (r := some (.inl (-1))) (w1 := (SH, dt)) rfl ?_
    first | exact ⟨rfl, (Or.inl ⟨_, rfl, ⟨by decide, by decide⟩, by assumption⟩)⟩ | exact ⟨rfl, (Or.inr ⟨rfl, by first | assumption | (exfalso; omega)⟩)⟩
theorem sp_J0_indexOf_7cf53_f (L : Nat) (xs : Nat → Int32) (sio : Option Nat) (d : Nat) (dt : Nat → Nat → Int) (hI : InvC dt)  (p1 : Int) (h_p1 : 0 ≤ p1 ∧ p1 ≤ 255)  : GO (am_XX L xs sio) (d + 2) 252 0 [some (.inr (.inr (some 1002))), some (.inl p1), some (.inl 0)] [] (SH, dt) (fun r w2 => w2 = (SH, dt) ∧ ((∃ v : Int, r = some (.inl v) ∧ (0 ≤ v ∧ v ≤ 9) ∧ (am_i2b p1 = (am_Sby.getD 2 []).getD v.toNat 0)) ∨ (r = some (.inl (-1)) ∧ (∀ j : Nat, j < 10 → ¬ (am_Sby.getD 2 []).getD j 0 = am_i2b p1)))) := by
  refine go_toq PM252 (k := 1) (pc' := 1) (L' := [some (.inr (.inr (some 1002))), some (.inl p1), some (.inl 0)]) (st' := [.inr (.inr (some 1002))]) (w' := (SH, dt)) rfl ?_
  refine go_callq PM252 PM254 (Q' := _) rfl rfl rfl rfl (sp_J0_isLatin1_aae02_1002 L xs sio (d + 1) dt hI   ) ?_
  rintro _ _ ⟨rfl, h1⟩
  refine ⟨rfl, ?_⟩
  rcases h1 with ⟨rfl, h1⟩
  refine go_toq PM252 (k := 6) (pc' := 14) (L' := [some (.inr (.inr (some 1002))), some (.inl p1), some (.inl 0)]) (st' := [.inr (.inr (some 1002)), .inl 0, .inl p1, .inr (.inr (some 2002))]) (w' := (SH, dt)) rfl ?_
  refine go_callq PM252 PM249 (Q' := _) rfl rfl rfl rfl (sp_J0_length_8abf5_1002 L xs sio (d + 0) dt hI   ) ?_
  rintro _ _ ⟨rfl, h2⟩
  refine ⟨rfl, ?_⟩
  rcases h2 with ⟨rfl, h2⟩
  refine go_callq PM252 PM258 (Q' := _) rfl rfl rfl rfl (sp_J1_indexOf_4cfef_f L xs sio (d + 0) dt hI  p1 (by first | exact h_p1 | exact bnd h_p1 (by decide) (by decide) | exact ⟨by fail, by fail⟩) ) ?_
  rintro _ _ ⟨rfl, h3⟩
  refine ⟨rfl, ?_⟩
  rcases h3 with ⟨v_h3, rfl, h3r, h3⟩ | ⟨rfl, h3⟩
  · skip
    refine go_retq PM252 (k := 1) (r := some (.inl v_h3)) (w1 := (SH, dt)) rfl ?_
    exact ⟨rfl, (Or.inl ⟨_, rfl, (by first | exact bnd h3r (by decide) (by decide) | exact ⟨by fail, by fail⟩), by assumption⟩)⟩
  · skip
    refine go_retq PM252 (k := 1) (r := some (.inl (-1))) (w1 := (SH, dt)) rfl ?_
    first | exact ⟨rfl, (Or.inl ⟨_, rfl, ⟨by decide, by decide⟩, by assumption⟩)⟩ | exact ⟨rfl, (Or.inr ⟨rfl, by assumption⟩)⟩
theorem sp_J0_indexOf_0f7a4_f (L : Nat) (xs : Nat → Int32) (sio : Option Nat) (d : Nat) (dt : Nat → Nat → Int) (hI : InvC dt)  (p1 : Int) (h_p1 : 0 ≤ p1 ∧ p1 ≤ 255)  : GO (am_XX L xs sio) (d + 3) 251 0 [some (.inr (.inr (some 1002))), some (.inl p1)] [] (SH, dt) (fun r w2 => w2 = (SH, dt) ∧ ((∃ v : Int, r = some (.inl v) ∧ (0 ≤ v ∧ v ≤ 9) ∧ (p1 = 59 ∨ p1 = 43 ∨ p1 = 45 ∨ p1 = 42 ∨ p1 = 47 ∨ p1 = 40 ∨ p1 = 41 ∨ p1 = 60 ∨ p1 = 61 ∨ p1 = 62)) ∨ (r = some (.inl (-1)) ∧ (¬ (p1 = 59 ∨ p1 = 43 ∨ p1 = 45 ∨ p1 = 42 ∨ p1 = 47 ∨ p1 = 40 ∨ p1 = 41 ∨ p1 = 60 ∨ p1 = 61 ∨ p1 = 62))))) := by
  refine go_toq PM251 (k := 3) (pc' := 3) (L' := [some (.inr (.inr (some 1002))), some (.inl p1)]) (st' := [.inl 0, .inl p1, .inr (.inr (some 1002))]) (w' := (SH, dt)) rfl ?_
  refine go_callq PM251 PM252 (Q' := _) rfl rfl rfl rfl (sp_J0_indexOf_7cf53_f L xs sio (d + 0) dt hI  p1 (by first | exact h_p1 | exact bnd h_p1 (by decide) (by decide) | exact ⟨by fail, by fail⟩) ) ?_
  rintro _ _ ⟨rfl, h1⟩
  refine ⟨rfl, ?_⟩
  rcases h1 with ⟨v_h1, rfl, h1r, h1⟩ | ⟨rfl, h1⟩
  · skip
    refine go_retq PM251 (k := 0) (r := some (.inl v_h1)) (w1 := (SH, dt)) rfl ?_
    exact ⟨rfl, (Or.inl ⟨_, rfl, (by first | exact bnd h1r (by decide) (by decide) | exact ⟨by fail, by fail⟩), by exact SGN_1 (by assumption) ⟨by omega, by omega⟩ ⟨by omega, by omega⟩⟩)⟩
  · skip
    refine go_retq PM251 (k := 0) (r := some (.inl (-1))) (w1 := (SH, dt)) rfl ?_
    first | exact ⟨rfl, (Or.inl ⟨_, rfl, ⟨by decide, by decide⟩, by exact SGN_1 (by assumption) ⟨by fail, by fail⟩ ⟨by fail, by fail⟩⟩)⟩ | exact ⟨rfl, (Or.inr ⟨rfl, by exact SGN_0 ⟨by omega, by omega⟩ (by assumption)⟩)⟩
theorem sp_X1_kindOf_0f (L : Nat) (xs : Nat → Int32) (sio : Option Nat) (d : Nat) (dt : Nat → Nat → Int) (hI : InvC dt)  (p2 : Int) (h_p2 : 0 ≤ p2 ∧ p2 ≤ 499) (p3 : Int) (h_p3 : 1 ≤ p3 ∧ p3 ≤ 500) (h_p0 : p2 < dt 35 1) (h_p1 : p3 = ((TE (mB (fun j => am_and (dt 36 j) 255) (dt 35 1)) (dt 35 1).toNat p2.toNat : Nat) : Int)) (h_p2 : p2 < p3) : GO (am_XX L xs sio) (d + 6) 16 0 [some (.inr (.inr (some 35))), some (.inr (.inr (some 1000))), some (.inl p2), some (.inl p3), none, none] [] (SH, dt) (fun r w2 => w2 = (SH, dt) ∧ ((∃ v : Int, r = some (.inl v) ∧ (1 ≤ v ∧ v ≤ 1012) ∧ (v = KD 0 (mB (fun j => am_and (dt 36 j) 255) (dt 35 1)) (dt 35 1).toNat p2.toNat)))) := by
  have r1 : 0 ≤ dt 35 1 ∧ dt 35 1 ≤ 500 := InvC_get hI 35 1 rfl rfl
  have hp3 : p3.toNat = TE (mB (fun j => am_and (dt 36 j) 255) (dt 35 1)) (dt 35 1).toNat p2.toNat := by omega
  refine go_toq PM16 (k := 2) (pc' := 2) (L' := [some (.inr (.inr (some 35))), some (.inr (.inr (some 1000))), some (.inl p2), some (.inl p3), none, none]) (st' := [.inl p2, .inr (.inr (some 35))]) (w' := (SH, dt)) rfl ?_
  refine go_callq PM16 PM10 (Q' := _) rfl rfl rfl rfl (sp_X1_byteAt_f L xs sio (d + 5) dt hI  p2 (by first | exact h_p2 | exact bnd h_p2 (by decide) (by decide) | exact ⟨by omega, by omega⟩) ) ?_
  rintro _ _ ⟨rfl, h2⟩
  refine ⟨rfl, ?_⟩
  rcases h2 with ⟨v_h2, rfl, h2r, h2⟩
  have hz := i2c_id (x := v_h2) (by omega)
  refine go_toq PM16 (k := 2) (pc' := 9) (L' := [some (.inr (.inr (some 35))), some (.inr (.inr (some 1000))), some (.inl p2), some (.inl p3), some (.inl v_h2), none]) (st' := [.inl v_h2]) (w' := (SH, dt)) rfl ?_
  refine go_callq PM16 PM12 (Q' := _) rfl rfl rfl rfl (sp_X1_isDigit_f L xs sio (d + 5) dt hI  v_h2 (by first | exact bnd h2r (by decide) (by decide) | exact ⟨by fail, by fail⟩) ) ?_
  rintro _ _ ⟨rfl, h3⟩
  refine ⟨rfl, ?_⟩
  rcases h3 with ⟨v_h3, rfl, h3r, h3⟩
  refine go_ifq PM16 (k := 0) (p1 := 28) (p2 := 15) (L' := [some (.inr (.inr (some 35))), some (.inr (.inr (some 1000))), some (.inl p2), some (.inl p3), some (.inl v_h2), none]) (st' := []) (w' := (SH, dt)) rfl (z_eq (a := v_h3) (by first | exact bnd h3r (by decide) (by decide) | exact ⟨by fail, by fail⟩)) (fun c4 => ?_) (fun c4 => ?_)
  · skip
    refine go_toq PM16 (k := 1) (pc' := 30) (L' := [some (.inr (.inr (some 35))), some (.inr (.inr (some 1000))), some (.inl p2), some (.inl p3), some (.inl v_h2), none]) (st' := [.inl v_h2]) (w' := (SH, dt)) rfl ?_
    refine go_callq PM16 PM13 (Q' := _) rfl rfl rfl rfl (sp_X1_isLetter_f L xs sio (d + 5) dt hI  v_h2 (by first | exact bnd h2r (by decide) (by decide) | exact ⟨by fail, by fail⟩) ) ?_
    rintro _ _ ⟨rfl, h5⟩
    refine ⟨rfl, ?_⟩
    rcases h5 with ⟨v_h5, rfl, h5r, h5⟩
    refine go_ifq PM16 (k := 0) (p1 := 62) (p2 := 36) (L' := [some (.inr (.inr (some 35))), some (.inr (.inr (some 1000))), some (.inl p2), some (.inl p3), some (.inl v_h2), none]) (st' := []) (w' := (SH, dt)) rfl (z_eq (a := v_h5) (by first | exact bnd h5r (by decide) (by decide) | exact ⟨by fail, by fail⟩)) (fun c6 => ?_) (fun c6 => ?_)
    · skip
      have r7 := i2c_R v_h2
      refine go_toq PM16 (k := 3) (pc' := 67) (L' := [some (.inr (.inr (some 35))), some (.inr (.inr (some 1000))), some (.inl p2), some (.inl p3), some (.inl v_h2), none]) (st' := [.inl (am_i2c v_h2), .inr (.inr (some 1002))]) (w' := (SH, dt)) rfl ?_
      refine go_callq PM16 PM251 (Q' := _) rfl rfl rfl rfl (sp_J0_indexOf_0f7a4_f L xs sio (d + 2) dt hI  (am_i2c v_h2) ⟨by omega, by omega⟩ ) ?_
      rintro _ _ ⟨rfl, h8⟩
      refine ⟨rfl, ?_⟩
      rcases h8 with ⟨v_h8, rfl, h8r, h8⟩ | ⟨rfl, h8⟩
      · skip
        refine go_ifq PM16 (k := 0) (p1 := 78) (p2 := 73) (L' := [some (.inr (.inr (some 35))), some (.inr (.inr (some 1000))), some (.inl p2), some (.inl p3), some (.inl v_h2), none]) (st' := []) (w' := (SH, dt)) rfl (z_lt (a := v_h8) (by first | exact bnd h8r (by decide) (by decide) | exact ⟨by fail, by fail⟩)) (fun c9 => ?_) (fun c9 => ?_)
        · exfalso; omega
        · skip
          refine go_retq PM16 (k := 2) (r := some (.inl v_h2)) (w1 := (SH, dt)) rfl ?_
          exact ⟨rfl, ⟨_, rfl, (by first | exact bnd h2r (by decide) (by decide) | exact ⟨by omega, by omega⟩), by first | (rw [KD_d (by omega) (pDt h2 (by fail))]; first | (rw [if_pos (by fail)]; done) | (rw [if_neg (by fail)]; done)) | (rw [KD_l (W := wS) rfl (by omega) (pDf h2 (by omega)) (pLt h2 (by fail)), ← hp3]; first | (rw [if_pos (by fail)]; done) | (rw [if_neg (by fail)]; fail)) | (rw [KD_o (by omega) (pDf h2 (by omega)) (pLf h2 (by omega))]; first | (rw [if_pos (pSt h2 (by omega))]; exact h2) | (rw [if_neg (by rw [pSf h2 (by fail)]; decide)]; done))⟩⟩
      · skip
        refine go_retq PM16 (k := 2) (r := some (.inl 1)) (w1 := (SH, dt)) rfl ?_
        exact ⟨rfl, ⟨_, rfl, ⟨by decide, by decide⟩, by first | (rw [KD_d (by omega) (pDt h2 (by fail))]; first | (rw [if_pos (by fail)]; done) | (rw [if_neg (by fail)]; done)) | (rw [KD_l (W := wS) rfl (by omega) (pDf h2 (by omega)) (pLt h2 (by fail)), ← hp3]; first | (rw [if_pos (by fail)]; done) | (rw [if_neg (by fail)]; fail)) | (rw [KD_o (by omega) (pDf h2 (by omega)) (pLf h2 (by omega))]; first | (rw [if_pos (pSt h2 (by fail))]; exact h2) | (rw [if_neg (by rw [pSf h2 (by omega)]; decide)]; done))⟩⟩
    · skip
      replace c6 := hid c6
      refine go_toq PM16 (k := 4) (pc' := 40) (L' := [some (.inr (.inr (some 35))), some (.inr (.inr (some 1000))), some (.inl p2), some (.inl p3), some (.inl v_h2), none]) (st' := [.inl p3, .inl p2, .inr (.inr (some 1000)), .inr (.inr (some 35))]) (w' := (SH, dt)) rfl ?_
      refine go_callq PM16 PM18 (Q' := _) rfl rfl rfl rfl (sp_X1_wordOf_0f L xs sio (d + 0) dt hI  p2 (by first | exact h_p2 | exact bnd h_p2 (by decide) (by decide) | exact ⟨by omega, by omega⟩) p3 (by first | exact h_p3 | exact bnd h_p3 (by decide) (by decide) | exact ⟨by fail, by fail⟩) (by first | exact True.intro | with_reducible assumption | exact unhid (by with_reducible assumption) | rfl | omega | trivial)) ?_
      rintro _ _ ⟨rfl, h10⟩
      refine ⟨rfl, ?_⟩
      rcases h10 with ⟨v_h10, rfl, h10r, h10⟩
      refine go_ifq PM16 (k := 3) (p1 := 55) (p2 := 51) (L' := [some (.inr (.inr (some 35))), some (.inr (.inr (some 1000))), some (.inl p2), some (.inl p3), some (.inl v_h2), some (.inl v_h10)]) (st' := []) (w' := (SH, dt)) rfl (c_ne (a := v_h10) (b := (-1)) (by first | exact bnd h10r (by decide) (by decide) | exact ⟨by fail, by fail⟩) ⟨by decide, by decide⟩) (fun c11 => ?_) (fun c11 => ?_)
      · skip
        replace c11 := hid c11
        refine go_retq PM16 (k := 3) (r := some (.inl (1000 + v_h10))) (w1 := (SH, dt)) rfl ?_
        exact ⟨rfl, ⟨_, rfl, ⟨by omega, by omega⟩, by first | (rw [KD_d (by omega) (pDt h2 (by fail))]; first | (rw [if_pos (by fail)]; done) | (rw [if_neg (by fail)]; done)) | (rw [KD_l (W := wS) rfl (by omega) (pDf h2 (by omega)) (pLt h2 (by (have z0_ := unhid c6; have z1_ := unhid c11; omega))), ← hp3]; first | (rw [if_pos (by fail)]; done) | (rw [if_neg (by (have z0_ := unhid c6; have z1_ := unhid c11; omega))]; omega)) | (rw [KD_o (by fail) (pDf h2 (by fail)) (pLf h2 (by fail))]; first | (rw [if_pos (pSt h2 (by fail))]; exact h2) | (rw [if_neg (by rw [pSf h2 (by fail)]; decide)]; done))⟩⟩
      · skip
        refine go_retq PM16 (k := 2) (r := some (.inl 1)) (w1 := (SH, dt)) rfl ?_
        exact ⟨rfl, ⟨_, rfl, ⟨by decide, by decide⟩, by first | (rw [KD_d (by omega) (pDt h2 (by fail))]; first | (rw [if_pos (by fail)]; done) | (rw [if_neg (by fail)]; done)) | (rw [KD_l (W := wS) rfl (by omega) (pDf h2 (by omega)) (pLt h2 (by (have z0_ := unhid c6; omega))), ← hp3]; first | (rw [if_pos (by omega)]; done) | (rw [if_neg (by fail)]; fail)) | (rw [KD_o (by fail) (pDf h2 (by fail)) (pLf h2 (by fail))]; first | (rw [if_pos (pSt h2 (by fail))]; exact h2) | (rw [if_neg (by rw [pSf h2 (by fail)]; decide)]; done))⟩⟩
  · skip
    replace c4 := hid c4
    refine go_ifq PM16 (k := 4) (p1 := 26) (p2 := 22) (L' := [some (.inr (.inr (some 35))), some (.inr (.inr (some 1000))), some (.inl p2), some (.inl p3), some (.inl v_h2), none]) (st' := []) (w' := (SH, dt)) rfl (c_gt (a := p3 - p2) (b := 4) ⟨by omega, by omega⟩ ⟨by decide, by decide⟩) (fun c12 => ?_) (fun c12 => ?_)
    · skip
      refine go_retq PM16 (k := 1) (r := some (.inl 1)) (w1 := (SH, dt)) rfl ?_
      exact ⟨rfl, ⟨_, rfl, ⟨by decide, by decide⟩, by first | (rw [KD_d (by omega) (pDt h2 (by (have z0_ := unhid c4; omega)))]; first | (rw [if_pos (by fail)]; done) | (rw [if_neg (by omega)]; done)) | (rw [KD_l (W := wS) rfl (by fail) (pDf h2 (by fail)) (pLt h2 (by fail)), ← hp3]; first | (rw [if_pos (by fail)]; done) | (rw [if_neg (by fail)]; fail)) | (rw [KD_o (by fail) (pDf h2 (by fail)) (pLf h2 (by fail))]; first | (rw [if_pos (pSt h2 (by fail))]; exact h2) | (rw [if_neg (by rw [pSf h2 (by fail)]; decide)]; done))⟩⟩
    · skip
      refine go_retq PM16 (k := 2) (r := some (.inl 2)) (w1 := (SH, dt)) rfl ?_
      exact ⟨rfl, ⟨_, rfl, ⟨by decide, by decide⟩, by first | (rw [KD_d (by omega) (pDt h2 (by (have z0_ := unhid c4; omega)))]; first | (rw [if_pos (by omega)]; done) | (rw [if_neg (by fail)]; done)) | (rw [KD_l (W := wS) rfl (by fail) (pDf h2 (by fail)) (pLt h2 (by fail)), ← hp3]; first | (rw [if_pos (by fail)]; done) | (rw [if_neg (by fail)]; fail)) | (rw [KD_o (by fail) (pDf h2 (by fail)) (pLf h2 (by fail))]; first | (rw [if_pos (pSt h2 (by fail))]; exact h2) | (rw [if_neg (by rw [pSf h2 (by fail)]; decide)]; done))⟩⟩
theorem sp_X1_kindOf_1f (L : Nat) (xs : Nat → Int32) (sio : Option Nat) (d : Nat) (dt : Nat → Nat → Int) (hI : InvC dt)  (p2 : Int) (h_p2 : 0 ≤ p2 ∧ p2 ≤ 499) (p3 : Int) (h_p3 : 1 ≤ p3 ∧ p3 ≤ 500) (h_p0 : p2 < dt 35 1) (h_p1 : p3 = ((TE (mB (fun j => am_and (dt 36 j) 255) (dt 35 1)) (dt 35 1).toNat p2.toNat : Nat) : Int)) (h_p2 : p2 < p3) : GO (am_XX L xs sio) (d + 6) 16 0 [some (.inr (.inr (some 35))), some (.inr (.inr (some 1001))), some (.inl p2), some (.inl p3), none, none] [] (SH, dt) (fun r w2 => w2 = (SH, dt) ∧ ((∃ v : Int, r = some (.inl v) ∧ (1 ≤ v ∧ v ≤ 1012) ∧ (v = KD 1 (mB (fun j => am_and (dt 36 j) 255) (dt 35 1)) (dt 35 1).toNat p2.toNat)))) := by
  have r1 : 0 ≤ dt 35 1 ∧ dt 35 1 ≤ 500 := InvC_get hI 35 1 rfl rfl
  have hp3 : p3.toNat = TE (mB (fun j => am_and (dt 36 j) 255) (dt 35 1)) (dt 35 1).toNat p2.toNat := by omega
  refine go_toq PM16 (k := 2) (pc' := 2) (L' := [some (.inr (.inr (some 35))), some (.inr (.inr (some 1001))), some (.inl p2), some (.inl p3), none, none]) (st' := [.inl p2, .inr (.inr (some 35))]) (w' := (SH, dt)) rfl ?_
  refine go_callq PM16 PM10 (Q' := _) rfl rfl rfl rfl (sp_X1_byteAt_f L xs sio (d + 5) dt hI  p2 (by first | exact h_p2 | exact bnd h_p2 (by decide) (by decide) | exact ⟨by omega, by omega⟩) ) ?_
  rintro _ _ ⟨rfl, h2⟩
  refine ⟨rfl, ?_⟩
  rcases h2 with ⟨v_h2, rfl, h2r, h2⟩
  have hz := i2c_id (x := v_h2) (by omega)
  refine go_toq PM16 (k := 2) (pc' := 9) (L' := [some (.inr (.inr (some 35))), some (.inr (.inr (some 1001))), some (.inl p2), some (.inl p3), some (.inl v_h2), none]) (st' := [.inl v_h2]) (w' := (SH, dt)) rfl ?_
  refine go_callq PM16 PM12 (Q' := _) rfl rfl rfl rfl (sp_X1_isDigit_f L xs sio (d + 5) dt hI  v_h2 (by first | exact bnd h2r (by decide) (by decide) | exact ⟨by fail, by fail⟩) ) ?_
  rintro _ _ ⟨rfl, h3⟩
  refine ⟨rfl, ?_⟩
  rcases h3 with ⟨v_h3, rfl, h3r, h3⟩
  refine go_ifq PM16 (k := 0) (p1 := 28) (p2 := 15) (L' := [some (.inr (.inr (some 35))), some (.inr (.inr (some 1001))), some (.inl p2), some (.inl p3), some (.inl v_h2), none]) (st' := []) (w' := (SH, dt)) rfl (z_eq (a := v_h3) (by first | exact bnd h3r (by decide) (by decide) | exact ⟨by fail, by fail⟩)) (fun c4 => ?_) (fun c4 => ?_)
  · skip
    refine go_toq PM16 (k := 1) (pc' := 30) (L' := [some (.inr (.inr (some 35))), some (.inr (.inr (some 1001))), some (.inl p2), some (.inl p3), some (.inl v_h2), none]) (st' := [.inl v_h2]) (w' := (SH, dt)) rfl ?_
    refine go_callq PM16 PM13 (Q' := _) rfl rfl rfl rfl (sp_X1_isLetter_f L xs sio (d + 5) dt hI  v_h2 (by first | exact bnd h2r (by decide) (by decide) | exact ⟨by fail, by fail⟩) ) ?_
    rintro _ _ ⟨rfl, h5⟩
    refine ⟨rfl, ?_⟩
    rcases h5 with ⟨v_h5, rfl, h5r, h5⟩
    refine go_ifq PM16 (k := 0) (p1 := 62) (p2 := 36) (L' := [some (.inr (.inr (some 35))), some (.inr (.inr (some 1001))), some (.inl p2), some (.inl p3), some (.inl v_h2), none]) (st' := []) (w' := (SH, dt)) rfl (z_eq (a := v_h5) (by first | exact bnd h5r (by decide) (by decide) | exact ⟨by fail, by fail⟩)) (fun c6 => ?_) (fun c6 => ?_)
    · skip
      have r7 := i2c_R v_h2
      refine go_toq PM16 (k := 3) (pc' := 67) (L' := [some (.inr (.inr (some 35))), some (.inr (.inr (some 1001))), some (.inl p2), some (.inl p3), some (.inl v_h2), none]) (st' := [.inl (am_i2c v_h2), .inr (.inr (some 1002))]) (w' := (SH, dt)) rfl ?_
      refine go_callq PM16 PM251 (Q' := _) rfl rfl rfl rfl (sp_J0_indexOf_0f7a4_f L xs sio (d + 2) dt hI  (am_i2c v_h2) ⟨by omega, by omega⟩ ) ?_
      rintro _ _ ⟨rfl, h8⟩
      refine ⟨rfl, ?_⟩
      rcases h8 with ⟨v_h8, rfl, h8r, h8⟩ | ⟨rfl, h8⟩
      · skip
        refine go_ifq PM16 (k := 0) (p1 := 78) (p2 := 73) (L' := [some (.inr (.inr (some 35))), some (.inr (.inr (some 1001))), some (.inl p2), some (.inl p3), some (.inl v_h2), none]) (st' := []) (w' := (SH, dt)) rfl (z_lt (a := v_h8) (by first | exact bnd h8r (by decide) (by decide) | exact ⟨by fail, by fail⟩)) (fun c9 => ?_) (fun c9 => ?_)
        · exfalso; omega
        · skip
          refine go_retq PM16 (k := 2) (r := some (.inl v_h2)) (w1 := (SH, dt)) rfl ?_
          exact ⟨rfl, ⟨_, rfl, (by first | exact bnd h2r (by decide) (by decide) | exact ⟨by omega, by omega⟩), by first | (rw [KD_d (by omega) (pDt h2 (by fail))]; first | (rw [if_pos (by fail)]; done) | (rw [if_neg (by fail)]; done)) | (rw [KD_l (W := wL) rfl (by omega) (pDf h2 (by omega)) (pLt h2 (by fail)), ← hp3]; first | (rw [if_pos (by fail)]; done) | (rw [if_neg (by fail)]; fail)) | (rw [KD_o (by omega) (pDf h2 (by omega)) (pLf h2 (by omega))]; first | (rw [if_pos (pSt h2 (by omega))]; exact h2) | (rw [if_neg (by rw [pSf h2 (by fail)]; decide)]; done))⟩⟩
      · skip
        refine go_retq PM16 (k := 2) (r := some (.inl 1)) (w1 := (SH, dt)) rfl ?_
        exact ⟨rfl, ⟨_, rfl, ⟨by decide, by decide⟩, by first | (rw [KD_d (by omega) (pDt h2 (by fail))]; first | (rw [if_pos (by fail)]; done) | (rw [if_neg (by fail)]; done)) | (rw [KD_l (W := wL) rfl (by omega) (pDf h2 (by omega)) (pLt h2 (by fail)), ← hp3]; first | (rw [if_pos (by fail)]; done) | (rw [if_neg (by fail)]; fail)) | (rw [KD_o (by omega) (pDf h2 (by omega)) (pLf h2 (by omega))]; first | (rw [if_pos (pSt h2 (by fail))]; exact h2) | (rw [if_neg (by rw [pSf h2 (by omega)]; decide)]; done))⟩⟩
    · skip
      replace c6 := hid c6
      refine go_toq PM16 (k := 4) (pc' := 40) (L' := [some (.inr (.inr (some 35))), some (.inr (.inr (some 1001))), some (.inl p2), some (.inl p3), some (.inl v_h2), none]) (st' := [.inl p3, .inl p2, .inr (.inr (some 1001)), .inr (.inr (some 35))]) (w' := (SH, dt)) rfl ?_
      refine go_callq PM16 PM18 (Q' := _) rfl rfl rfl rfl (sp_X1_wordOf_1f L xs sio (d + 0) dt hI  p2 (by first | exact h_p2 | exact bnd h_p2 (by decide) (by decide) | exact ⟨by omega, by omega⟩) p3 (by first | exact h_p3 | exact bnd h_p3 (by decide) (by decide) | exact ⟨by fail, by fail⟩) (by first | exact True.intro | with_reducible assumption | exact unhid (by with_reducible assumption) | rfl | omega | trivial)) ?_
      rintro _ _ ⟨rfl, h10⟩
      refine ⟨rfl, ?_⟩
      rcases h10 with ⟨v_h10, rfl, h10r, h10⟩
      refine go_ifq PM16 (k := 3) (p1 := 55) (p2 := 51) (L' := [some (.inr (.inr (some 35))), some (.inr (.inr (some 1001))), some (.inl p2), some (.inl p3), some (.inl v_h2), some (.inl v_h10)]) (st' := []) (w' := (SH, dt)) rfl (c_ne (a := v_h10) (b := (-1)) (by first | exact bnd h10r (by decide) (by decide) | exact ⟨by fail, by fail⟩) ⟨by decide, by decide⟩) (fun c11 => ?_) (fun c11 => ?_)
      · skip
        replace c11 := hid c11
        refine go_retq PM16 (k := 3) (r := some (.inl (1000 + v_h10))) (w1 := (SH, dt)) rfl ?_
        exact ⟨rfl, ⟨_, rfl, ⟨by omega, by omega⟩, by first | (rw [KD_d (by omega) (pDt h2 (by fail))]; first | (rw [if_pos (by fail)]; done) | (rw [if_neg (by fail)]; done)) | (rw [KD_l (W := wL) rfl (by omega) (pDf h2 (by omega)) (pLt h2 (by (have z0_ := unhid c6; have z1_ := unhid c11; omega))), ← hp3]; first | (rw [if_pos (by fail)]; done) | (rw [if_neg (by (have z0_ := unhid c6; have z1_ := unhid c11; omega))]; omega)) | (rw [KD_o (by fail) (pDf h2 (by fail)) (pLf h2 (by fail))]; first | (rw [if_pos (pSt h2 (by fail))]; exact h2) | (rw [if_neg (by rw [pSf h2 (by fail)]; decide)]; done))⟩⟩
      · skip
        refine go_retq PM16 (k := 2) (r := some (.inl 1)) (w1 := (SH, dt)) rfl ?_
        exact ⟨rfl, ⟨_, rfl, ⟨by decide, by decide⟩, by first | (rw [KD_d (by omega) (pDt h2 (by fail))]; first | (rw [if_pos (by fail)]; done) | (rw [if_neg (by fail)]; done)) | (rw [KD_l (W := wL) rfl (by omega) (pDf h2 (by omega)) (pLt h2 (by (have z0_ := unhid c6; omega))), ← hp3]; first | (rw [if_pos (by omega)]; done) | (rw [if_neg (by fail)]; fail)) | (rw [KD_o (by fail) (pDf h2 (by fail)) (pLf h2 (by fail))]; first | (rw [if_pos (pSt h2 (by fail))]; exact h2) | (rw [if_neg (by rw [pSf h2 (by fail)]; decide)]; done))⟩⟩
  · skip
    replace c4 := hid c4
    refine go_ifq PM16 (k := 4) (p1 := 26) (p2 := 22) (L' := [some (.inr (.inr (some 35))), some (.inr (.inr (some 1001))), some (.inl p2), some (.inl p3), some (.inl v_h2), none]) (st' := []) (w' := (SH, dt)) rfl (c_gt (a := p3 - p2) (b := 4) ⟨by omega, by omega⟩ ⟨by decide, by decide⟩) (fun c12 => ?_) (fun c12 => ?_)
    · skip
      refine go_retq PM16 (k := 1) (r := some (.inl 1)) (w1 := (SH, dt)) rfl ?_
      exact ⟨rfl, ⟨_, rfl, ⟨by decide, by decide⟩, by first | (rw [KD_d (by omega) (pDt h2 (by (have z0_ := unhid c4; omega)))]; first | (rw [if_pos (by fail)]; done) | (rw [if_neg (by omega)]; done)) | (rw [KD_l (W := wL) rfl (by fail) (pDf h2 (by fail)) (pLt h2 (by fail)), ← hp3]; first | (rw [if_pos (by fail)]; done) | (rw [if_neg (by fail)]; fail)) | (rw [KD_o (by fail) (pDf h2 (by fail)) (pLf h2 (by fail))]; first | (rw [if_pos (pSt h2 (by fail))]; exact h2) | (rw [if_neg (by rw [pSf h2 (by fail)]; decide)]; done))⟩⟩
    · skip
      refine go_retq PM16 (k := 2) (r := some (.inl 2)) (w1 := (SH, dt)) rfl ?_
      exact ⟨rfl, ⟨_, rfl, ⟨by decide, by decide⟩, by first | (rw [KD_d (by omega) (pDt h2 (by (have z0_ := unhid c4; omega)))]; first | (rw [if_pos (by omega)]; done) | (rw [if_neg (by fail)]; done)) | (rw [KD_l (W := wL) rfl (by fail) (pDf h2 (by fail)) (pLt h2 (by fail)), ← hp3]; first | (rw [if_pos (by fail)]; done) | (rw [if_neg (by fail)]; fail)) | (rw [KD_o (by fail) (pDf h2 (by fail)) (pLf h2 (by fail))]; first | (rw [if_pos (pSt h2 (by fail))]; exact h2) | (rw [if_neg (by rw [pSf h2 (by fail)]; decide)]; done))⟩⟩
theorem sp_X1_addToken_f (L : Nat) (xs : Nat → Int32) (sio : Option Nat) (d : Nat) (dt : Nat → Nat → Int) (hI : InvC dt)  (p1 : Int) (h_p1 : 0 ≤ p1 ∧ p1 ≤ 1100) (p2 : Int) (p3 : Int) (h_p3 : 0 ≤ p3 ∧ p3 ≤ 500) (h_p0 : dt 35 7 ≤ 500) : GO (am_XX L xs sio) (d) 15 0 [some (.inr (.inr (some 35))), some (.inl p1), some (.inl p2), some (.inl p3)] [] (SH, dt) (fun r w2 => ∃ dt2 : Nat → Nat → Int, w2 = (SH, dt2) ∧ InvC dt2 ∧ Fr [35, 37, 38, 39] dt dt2 ∧ ((r = none ∧ (dt2 35 7 = dt 35 7 + 1) ∧ (∀ j : Nat, ¬ (j : Int) = dt 35 7 → dt2 37 j = dt 37 j) ∧ (∀ j : Nat, ¬ (j : Int) = dt 35 7 → dt2 38 j = dt 38 j) ∧ (∀ j : Nat, ¬ (j : Int) = dt 35 7 → dt2 39 j = dt 39 j) ∧ (dt2 37 (dt 35 7).toNat = p1) ∧ (dt2 38 (dt 35 7).toNat = wr p2) ∧ (dt2 39 (dt 35 7).toNat = p3) ∧ (dt2 35 1 = dt 35 1) ∧ (dt2 35 2 = dt 35 2) ∧ (dt2 35 3 = dt 35 3) ∧ (dt2 35 8 = dt 35 8) ∧ (dt2 35 12 = dt 35 12)))) := by
  have hF : Fr [35, 37, 38, 39] dt dt := Fr_refl
  have r1 : 0 ≤ dt 35 7 ∧ dt 35 7 ≤ 501 := InvC_get hI 35 7 rfl rfl
  refine go_ifq PM15 (k := 5) (p1 := 52) (p2 := 12) (L' := [some (.inr (.inr (some 35))), some (.inl p1), some (.inl p2), some (.inl p3)]) (st' := []) (w' := (SH, dt)) rfl (c_ge (a := dt 35 7) (b := 501) (by first | exact bnd r1 (by decide) (by decide) | exact ⟨by fail, by fail⟩) ⟨by decide, by decide⟩) (fun c2 => ?_) (fun c2 => ?_)
  · skip
    refine go_retq PM15 (k := 0) (r := none) (w1 := (SH, dt)) rfl ?_
    exact ⟨dt, rfl, hI, hF, ⟨rfl, ⟨by first | exact True.intro | with_reducible assumption | rfl | omega | trivial, by intro j hj; first | rfl | (repeat rw [u2_ne (by fail)]), by intro j hj; first | rfl | (repeat rw [u2_ne (by fail)]), by intro j hj; first | rfl | (repeat rw [u2_ne (by fail)]), by first | (exfalso; omega) | (repeat (first | rw [u2_eq] | rw [u2_ne (by fail)])), by first | (exfalso; omega) | (repeat (first | rw [u2_eq] | rw [u2_ne (by fail)])), by first | (exfalso; omega) | (repeat (first | rw [u2_eq] | rw [u2_ne (by fail)])), by first | exact True.intro | with_reducible assumption | rfl | fail | trivial, by first | exact True.intro | with_reducible assumption | rfl | fail | trivial, by first | exact True.intro | with_reducible assumption | rfl | fail | trivial, by first | exact True.intro | with_reducible assumption | rfl | fail | trivial, by first | exact True.intro | with_reducible assumption | rfl | fail | trivial⟩⟩⟩
  · skip
    refine go_toq PM15 (k := 5) (pc' := 21) (L' := [some (.inr (.inr (some 35))), some (.inl p1), some (.inl p2), some (.inl p3)]) (st' := [.inl p1, .inl (dt 35 7), .inr (.inr (some 37))]) (w' := (SH, dt)) rfl ?_
    have hI3 : InvC (u2 dt 37 ((dt 35 7).toNat) p1) := InvC_u2 hI (lo := 0) (hi := 1100) rfl rfl rfl (by first | exact bnd1 h_p1 (by decide) | fail) (by first | exact bnd2 h_p1 (by decide) | fail)
    have hF4 : Fr [35, 37, 38, 39] dt (u2 dt 37 ((dt 35 7).toNat) p1) := Fr_u2 hF (by decide)
    have w5 : (u2 dt 37 ((dt 35 7).toNat) p1) 35 7 = dt 35 7 := rfl
    have w6 : (u2 dt 37 ((dt 35 7).toNat) p1) 35 1 = dt 35 1 := rfl
    have w7 : (u2 dt 37 ((dt 35 7).toNat) p1) 35 2 = dt 35 2 := rfl
    have w8 : (u2 dt 37 ((dt 35 7).toNat) p1) 35 3 = dt 35 3 := rfl
    have w9 : (u2 dt 37 ((dt 35 7).toNat) p1) 35 8 = dt 35 8 := rfl
    have w10 : (u2 dt 37 ((dt 35 7).toNat) p1) 35 12 = dt 35 12 := rfl
    refine go_smpq PM15 (L' := [some (.inr (.inr (some 35))), some (.inl p1), some (.inl p2), some (.inl p3)]) (st' := []) (w' := (SH, (u2 dt 37 ((dt 35 7).toNat) p1))) rfl rfl (s_iast (n := 501) rfl (by first | exact bndc r1 c2 (by decide) (by decide) | exact bndx r1 (by decide) (by decide) | exact ⟨by fail, by fail⟩) (by first | exact bnd h_p1 (by decide) (by decide) | exact ⟨by fail, by fail⟩)) ?_
    refine go_toq PM15 (k := 5) (pc' := 31) (L' := [some (.inr (.inr (some 35))), some (.inl p1), some (.inl p2), some (.inl p3)]) (st' := [.inl p2, .inl (dt 35 7), .inr (.inr (some 38))]) (w' := (SH, (u2 dt 37 ((dt 35 7).toNat) p1))) rfl ?_
    have r11 := wr_RR p2
    have hI12 : InvC (u2 (u2 dt 37 ((dt 35 7).toNat) p1) 38 ((dt 35 7).toNat) (wr p2)) := InvC_u2 hI3 (lo := -2147483648) (hi := 2147483647) rfl rfl rfl (by omega) (by omega)
    have hF13 : Fr [35, 37, 38, 39] dt (u2 (u2 dt 37 ((dt 35 7).toNat) p1) 38 ((dt 35 7).toNat) (wr p2)) := Fr_u2 hF4 (by decide)
    have w14 : (u2 (u2 dt 37 ((dt 35 7).toNat) p1) 38 ((dt 35 7).toNat) (wr p2)) 35 7 = (u2 dt 37 ((dt 35 7).toNat) p1) 35 7 := rfl
    have w15 : (u2 (u2 dt 37 ((dt 35 7).toNat) p1) 38 ((dt 35 7).toNat) (wr p2)) 35 1 = (u2 dt 37 ((dt 35 7).toNat) p1) 35 1 := rfl
    have w16 : (u2 (u2 dt 37 ((dt 35 7).toNat) p1) 38 ((dt 35 7).toNat) (wr p2)) 35 2 = (u2 dt 37 ((dt 35 7).toNat) p1) 35 2 := rfl
    have w17 : (u2 (u2 dt 37 ((dt 35 7).toNat) p1) 38 ((dt 35 7).toNat) (wr p2)) 35 3 = (u2 dt 37 ((dt 35 7).toNat) p1) 35 3 := rfl
    have w18 : (u2 (u2 dt 37 ((dt 35 7).toNat) p1) 38 ((dt 35 7).toNat) (wr p2)) 35 8 = (u2 dt 37 ((dt 35 7).toNat) p1) 35 8 := rfl
    have w19 : (u2 (u2 dt 37 ((dt 35 7).toNat) p1) 38 ((dt 35 7).toNat) (wr p2)) 35 12 = (u2 dt 37 ((dt 35 7).toNat) p1) 35 12 := rfl
    refine go_smpq PM15 (L' := [some (.inr (.inr (some 35))), some (.inl p1), some (.inl p2), some (.inl p3)]) (st' := []) (w' := (SH, (u2 (u2 dt 37 ((dt 35 7).toNat) p1) 38 ((dt 35 7).toNat) (wr p2)))) rfl rfl (s_iastw (n := 501) rfl (by first | exact bndc r1 c2 (by decide) (by decide) | exact bndx r1 (by decide) (by decide) | exact ⟨by fail, by fail⟩)) ?_
    refine go_toq PM15 (k := 5) (pc' := 41) (L' := [some (.inr (.inr (some 35))), some (.inl p1), some (.inl p2), some (.inl p3)]) (st' := [.inl p3, .inl (dt 35 7), .inr (.inr (some 39))]) (w' := (SH, (u2 (u2 dt 37 ((dt 35 7).toNat) p1) 38 ((dt 35 7).toNat) (wr p2)))) rfl ?_
    have hI20 : InvC (u2 (u2 (u2 dt 37 ((dt 35 7).toNat) p1) 38 ((dt 35 7).toNat) (wr p2)) 39 ((dt 35 7).toNat) p3) := InvC_u2 hI12 (lo := -2147483648) (hi := 2147483647) rfl rfl rfl (by first | exact bnd1 h_p3 (by decide) | fail) (by first | exact bnd2 h_p3 (by decide) | fail)
    have hF21 : Fr [35, 37, 38, 39] dt (u2 (u2 (u2 dt 37 ((dt 35 7).toNat) p1) 38 ((dt 35 7).toNat) (wr p2)) 39 ((dt 35 7).toNat) p3) := Fr_u2 hF13 (by decide)
    have w22 : (u2 (u2 (u2 dt 37 ((dt 35 7).toNat) p1) 38 ((dt 35 7).toNat) (wr p2)) 39 ((dt 35 7).toNat) p3) 35 7 = (u2 (u2 dt 37 ((dt 35 7).toNat) p1) 38 ((dt 35 7).toNat) (wr p2)) 35 7 := rfl
    have w23 : (u2 (u2 (u2 dt 37 ((dt 35 7).toNat) p1) 38 ((dt 35 7).toNat) (wr p2)) 39 ((dt 35 7).toNat) p3) 35 1 = (u2 (u2 dt 37 ((dt 35 7).toNat) p1) 38 ((dt 35 7).toNat) (wr p2)) 35 1 := rfl
    have w24 : (u2 (u2 (u2 dt 37 ((dt 35 7).toNat) p1) 38 ((dt 35 7).toNat) (wr p2)) 39 ((dt 35 7).toNat) p3) 35 2 = (u2 (u2 dt 37 ((dt 35 7).toNat) p1) 38 ((dt 35 7).toNat) (wr p2)) 35 2 := rfl
    have w25 : (u2 (u2 (u2 dt 37 ((dt 35 7).toNat) p1) 38 ((dt 35 7).toNat) (wr p2)) 39 ((dt 35 7).toNat) p3) 35 3 = (u2 (u2 dt 37 ((dt 35 7).toNat) p1) 38 ((dt 35 7).toNat) (wr p2)) 35 3 := rfl
    have w26 : (u2 (u2 (u2 dt 37 ((dt 35 7).toNat) p1) 38 ((dt 35 7).toNat) (wr p2)) 39 ((dt 35 7).toNat) p3) 35 8 = (u2 (u2 dt 37 ((dt 35 7).toNat) p1) 38 ((dt 35 7).toNat) (wr p2)) 35 8 := rfl
    have w27 : (u2 (u2 (u2 dt 37 ((dt 35 7).toNat) p1) 38 ((dt 35 7).toNat) (wr p2)) 39 ((dt 35 7).toNat) p3) 35 12 = (u2 (u2 dt 37 ((dt 35 7).toNat) p1) 38 ((dt 35 7).toNat) (wr p2)) 35 12 := rfl
    refine go_smpq PM15 (L' := [some (.inr (.inr (some 35))), some (.inl p1), some (.inl p2), some (.inl p3)]) (st' := []) (w' := (SH, (u2 (u2 (u2 dt 37 ((dt 35 7).toNat) p1) 38 ((dt 35 7).toNat) (wr p2)) 39 ((dt 35 7).toNat) p3))) rfl rfl (s_iast (n := 501) rfl (by first | exact bndc r1 c2 (by decide) (by decide) | exact bndx r1 (by decide) (by decide) | exact ⟨by fail, by fail⟩) (by first | exact bnd h_p3 (by decide) (by decide) | exact ⟨by fail, by fail⟩)) ?_
    refine go_toq PM15 (k := 5) (pc' := 49) (L' := [some (.inr (.inr (some 35))), some (.inl p1), some (.inl p2), some (.inl p3)]) (st' := [.inl ((dt 35 7) + 1), .inr (.inr (some 35))]) (w' := (SH, (u2 (u2 (u2 dt 37 ((dt 35 7).toNat) p1) 38 ((dt 35 7).toNat) (wr p2)) 39 ((dt 35 7).toNat) p3))) rfl ?_
    have hI28 : InvC (u2 (u2 (u2 (u2 dt 37 ((dt 35 7).toNat) p1) 38 ((dt 35 7).toNat) (wr p2)) 39 ((dt 35 7).toNat) p3) 35 7 ((dt 35 7) + 1)) := InvC_u2 hI20 (lo := 0) (hi := 501) rfl rfl rfl (by omega) (by omega)
    have hF29 : Fr [35, 37, 38, 39] dt (u2 (u2 (u2 (u2 dt 37 ((dt 35 7).toNat) p1) 38 ((dt 35 7).toNat) (wr p2)) 39 ((dt 35 7).toNat) p3) 35 7 ((dt 35 7) + 1)) := Fr_u2 hF21 (by decide)
    have w30 : (u2 (u2 (u2 (u2 dt 37 ((dt 35 7).toNat) p1) 38 ((dt 35 7).toNat) (wr p2)) 39 ((dt 35 7).toNat) p3) 35 7 ((dt 35 7) + 1)) 35 7 = (dt 35 7) + 1 := rfl
    have w31 : (u2 (u2 (u2 (u2 dt 37 ((dt 35 7).toNat) p1) 38 ((dt 35 7).toNat) (wr p2)) 39 ((dt 35 7).toNat) p3) 35 7 ((dt 35 7) + 1)) 35 1 = (u2 (u2 (u2 dt 37 ((dt 35 7).toNat) p1) 38 ((dt 35 7).toNat) (wr p2)) 39 ((dt 35 7).toNat) p3) 35 1 := rfl
    have w32 : (u2 (u2 (u2 (u2 dt 37 ((dt 35 7).toNat) p1) 38 ((dt 35 7).toNat) (wr p2)) 39 ((dt 35 7).toNat) p3) 35 7 ((dt 35 7) + 1)) 35 2 = (u2 (u2 (u2 dt 37 ((dt 35 7).toNat) p1) 38 ((dt 35 7).toNat) (wr p2)) 39 ((dt 35 7).toNat) p3) 35 2 := rfl
    have w33 : (u2 (u2 (u2 (u2 dt 37 ((dt 35 7).toNat) p1) 38 ((dt 35 7).toNat) (wr p2)) 39 ((dt 35 7).toNat) p3) 35 7 ((dt 35 7) + 1)) 35 3 = (u2 (u2 (u2 dt 37 ((dt 35 7).toNat) p1) 38 ((dt 35 7).toNat) (wr p2)) 39 ((dt 35 7).toNat) p3) 35 3 := rfl
    have w34 : (u2 (u2 (u2 (u2 dt 37 ((dt 35 7).toNat) p1) 38 ((dt 35 7).toNat) (wr p2)) 39 ((dt 35 7).toNat) p3) 35 7 ((dt 35 7) + 1)) 35 8 = (u2 (u2 (u2 dt 37 ((dt 35 7).toNat) p1) 38 ((dt 35 7).toNat) (wr p2)) 39 ((dt 35 7).toNat) p3) 35 8 := rfl
    have w35 : (u2 (u2 (u2 (u2 dt 37 ((dt 35 7).toNat) p1) 38 ((dt 35 7).toNat) (wr p2)) 39 ((dt 35 7).toNat) p3) 35 7 ((dt 35 7) + 1)) 35 12 = (u2 (u2 (u2 dt 37 ((dt 35 7).toNat) p1) 38 ((dt 35 7).toNat) (wr p2)) 39 ((dt 35 7).toNat) p3) 35 12 := rfl
    refine go_smpq PM15 (L' := [some (.inr (.inr (some 35))), some (.inl p1), some (.inl p2), some (.inl p3)]) (st' := []) (w' := (SH, (u2 (u2 (u2 (u2 dt 37 ((dt 35 7).toNat) p1) 38 ((dt 35 7).toNat) (wr p2)) 39 ((dt 35 7).toNat) p3) 35 7 ((dt 35 7) + 1)))) rfl rfl (s_pf rfl rfl rfl rfl (by first | exact bndp r1 (by decide) (by decide) | exact ⟨by fail, by fail⟩)) ?_
    refine go_retq PM15 (k := 0) (r := none) (w1 := (SH, (u2 (u2 (u2 (u2 dt 37 ((dt 35 7).toNat) p1) 38 ((dt 35 7).toNat) (wr p2)) 39 ((dt 35 7).toNat) p3) 35 7 ((dt 35 7) + 1)))) rfl ?_
    exact ⟨(u2 (u2 (u2 (u2 dt 37 ((dt 35 7).toNat) p1) 38 ((dt 35 7).toNat) (wr p2)) 39 ((dt 35 7).toNat) p3) 35 7 ((dt 35 7) + 1)), rfl, hI28, hF29, ⟨rfl, ⟨by first | exact True.intro | with_reducible assumption | rfl | fail | trivial, by intro j hj; first | rfl | (repeat rw [u2_ne (by omega)]), by intro j hj; first | rfl | (repeat rw [u2_ne (by omega)]), by intro j hj; first | rfl | (repeat rw [u2_ne (by omega)]), by first | (exfalso; fail) | (repeat (first | rw [u2_eq] | rw [u2_ne (by omega)])), by first | (exfalso; fail) | (repeat (first | rw [u2_eq] | rw [u2_ne (by omega)])), by first | (exfalso; fail) | (repeat (first | rw [u2_eq] | rw [u2_ne (by omega)])), by first | exact True.intro | with_reducible assumption | rfl | fail | trivial, by first | exact True.intro | with_reducible assumption | rfl | fail | trivial, by first | exact True.intro | with_reducible assumption | rfl | fail | trivial, by first | exact True.intro | with_reducible assumption | rfl | fail | trivial, by first | exact True.intro | with_reducible assumption | rfl | fail | trivial⟩⟩⟩
set_option maxHeartbeats 8000000 in
theorem sp_X1_start_0f (L : Nat) (xs : Nat → Int32) (sio : Option Nat) (d : Nat) (dt : Nat → Nat → Int) (hI : InvC dt)    : GO (am_XX L xs sio) (d + 7) 9 0 [some (.inr (.inr (some 35))), some (.inr (.inr (some 1000))), none, none] [] (SH, dt) (fun r w2 => ∃ dt2 : Nat → Nat → Int, w2 = (SH, dt2) ∧ InvC dt2 ∧ Fr [35, 37, 38, 39] dt dt2 ∧ ((r = none ∧ (dt2 35 1 = 0) ∧ (dt2 35 2 = 0) ∧ (dt2 35 3 = -1) ∧ (dt2 35 8 = 0) ∧ (dt2 35 12 = 0) ∧ (1 ≤ dt2 35 7) ∧ (TOK 0 (mB (fun j => am_and (dt 36 j) 255) (dt 35 1)) (dt 35 1).toNat dt2 (dt2 35 7 - 1).toNat)))) := by
  have hF : Fr [35, 37, 38, 39] dt dt := Fr_refl
  have r1 : 0 ≤ dt 35 1 ∧ dt 35 1 ≤ 500 := InvC_get hI 35 1 rfl rfl
  refine go_toq PM9 (k := 2) (pc' := 2) (L' := [some (.inr (.inr (some 35))), some (.inr (.inr (some 1000))), none, none]) (st' := [.inl 0, .inr (.inr (some 35))]) (w' := (SH, dt)) rfl ?_
  have hI2 : InvC (u2 dt 35 2 0) := InvC_u2 hI (lo := -2147483648) (hi := 2147483647) rfl rfl rfl (by decide) (by decide)
  have hF3 : Fr [35, 37, 38, 39] dt (u2 dt 35 2 0) := Fr_u2 hF (by decide)
  have w4 : (u2 dt 35 2 0) 35 1 = dt 35 1 := rfl
  have w5 : (u2 dt 35 2 0) 35 2 = 0 := rfl
  have w6 : (u2 dt 35 2 0) 35 3 = dt 35 3 := rfl
  have w7 : (u2 dt 35 2 0) 35 7 = dt 35 7 := rfl
  have w8 : (u2 dt 35 2 0) 35 8 = dt 35 8 := rfl
  have w9 : (u2 dt 35 2 0) 35 12 = dt 35 12 := rfl
  refine go_smpq PM9 (L' := [some (.inr (.inr (some 35))), some (.inr (.inr (some 1000))), none, none]) (st' := []) (w' := (SH, (u2 dt 35 2 0))) rfl rfl (s_pf rfl rfl rfl rfl ⟨by decide, by decide⟩) ?_
  refine go_toq PM9 (k := 2) (pc' := 7) (L' := [some (.inr (.inr (some 35))), some (.inr (.inr (some 1000))), none, none]) (st' := [.inl (-1), .inr (.inr (some 35))]) (w' := (SH, (u2 dt 35 2 0))) rfl ?_
  have hI10 : InvC (u2 (u2 dt 35 2 0) 35 3 (-1)) := InvC_u2 hI2 (lo := -2147483648) (hi := 2147483647) rfl rfl rfl (by decide) (by decide)
  have hF11 : Fr [35, 37, 38, 39] dt (u2 (u2 dt 35 2 0) 35 3 (-1)) := Fr_u2 hF3 (by decide)
  have w12 : (u2 (u2 dt 35 2 0) 35 3 (-1)) 35 1 = (u2 dt 35 2 0) 35 1 := rfl
  have w13 : (u2 (u2 dt 35 2 0) 35 3 (-1)) 35 2 = (u2 dt 35 2 0) 35 2 := rfl
  have w14 : (u2 (u2 dt 35 2 0) 35 3 (-1)) 35 3 = (-1) := rfl
  have w15 : (u2 (u2 dt 35 2 0) 35 3 (-1)) 35 7 = (u2 dt 35 2 0) 35 7 := rfl
  have w16 : (u2 (u2 dt 35 2 0) 35 3 (-1)) 35 8 = (u2 dt 35 2 0) 35 8 := rfl
  have w17 : (u2 (u2 dt 35 2 0) 35 3 (-1)) 35 12 = (u2 dt 35 2 0) 35 12 := rfl
  refine go_smpq PM9 (L' := [some (.inr (.inr (some 35))), some (.inr (.inr (some 1000))), none, none]) (st' := []) (w' := (SH, (u2 (u2 dt 35 2 0) 35 3 (-1)))) rfl rfl (s_pf rfl rfl rfl rfl ⟨by decide, by decide⟩) ?_
  refine go_toq PM9 (k := 2) (pc' := 12) (L' := [some (.inr (.inr (some 35))), some (.inr (.inr (some 1000))), none, none]) (st' := [.inl 0, .inr (.inr (some 35))]) (w' := (SH, (u2 (u2 dt 35 2 0) 35 3 (-1)))) rfl ?_
  have hI18 : InvC (u2 (u2 (u2 dt 35 2 0) 35 3 (-1)) 35 7 0) := InvC_u2 hI10 (lo := 0) (hi := 501) rfl rfl rfl (by decide) (by decide)
  have hF19 : Fr [35, 37, 38, 39] dt (u2 (u2 (u2 dt 35 2 0) 35 3 (-1)) 35 7 0) := Fr_u2 hF11 (by decide)
  have w20 : (u2 (u2 (u2 dt 35 2 0) 35 3 (-1)) 35 7 0) 35 1 = (u2 (u2 dt 35 2 0) 35 3 (-1)) 35 1 := rfl
  have w21 : (u2 (u2 (u2 dt 35 2 0) 35 3 (-1)) 35 7 0) 35 2 = (u2 (u2 dt 35 2 0) 35 3 (-1)) 35 2 := rfl
  have w22 : (u2 (u2 (u2 dt 35 2 0) 35 3 (-1)) 35 7 0) 35 3 = (u2 (u2 dt 35 2 0) 35 3 (-1)) 35 3 := rfl
  have w23 : (u2 (u2 (u2 dt 35 2 0) 35 3 (-1)) 35 7 0) 35 7 = 0 := rfl
  have w24 : (u2 (u2 (u2 dt 35 2 0) 35 3 (-1)) 35 7 0) 35 8 = (u2 (u2 dt 35 2 0) 35 3 (-1)) 35 8 := rfl
  have w25 : (u2 (u2 (u2 dt 35 2 0) 35 3 (-1)) 35 7 0) 35 12 = (u2 (u2 dt 35 2 0) 35 3 (-1)) 35 12 := rfl
  refine go_smpq PM9 (L' := [some (.inr (.inr (some 35))), some (.inr (.inr (some 1000))), none, none]) (st' := []) (w' := (SH, (u2 (u2 (u2 dt 35 2 0) 35 3 (-1)) 35 7 0))) rfl rfl (s_pf rfl rfl rfl rfl ⟨by decide, by decide⟩) ?_
  refine go_toq PM9 (k := 2) (pc' := 17) (L' := [some (.inr (.inr (some 35))), some (.inr (.inr (some 1000))), none, none]) (st' := [.inl 0, .inr (.inr (some 35))]) (w' := (SH, (u2 (u2 (u2 dt 35 2 0) 35 3 (-1)) 35 7 0))) rfl ?_
  have hI26 : InvC (u2 (u2 (u2 (u2 dt 35 2 0) 35 3 (-1)) 35 7 0) 35 8 0) := InvC_u2 hI18 (lo := -2147483648) (hi := 2147483647) rfl rfl rfl (by decide) (by decide)
  have hF27 : Fr [35, 37, 38, 39] dt (u2 (u2 (u2 (u2 dt 35 2 0) 35 3 (-1)) 35 7 0) 35 8 0) := Fr_u2 hF19 (by decide)
  have w28 : (u2 (u2 (u2 (u2 dt 35 2 0) 35 3 (-1)) 35 7 0) 35 8 0) 35 1 = (u2 (u2 (u2 dt 35 2 0) 35 3 (-1)) 35 7 0) 35 1 := rfl
  have w29 : (u2 (u2 (u2 (u2 dt 35 2 0) 35 3 (-1)) 35 7 0) 35 8 0) 35 2 = (u2 (u2 (u2 dt 35 2 0) 35 3 (-1)) 35 7 0) 35 2 := rfl
  have w30 : (u2 (u2 (u2 (u2 dt 35 2 0) 35 3 (-1)) 35 7 0) 35 8 0) 35 3 = (u2 (u2 (u2 dt 35 2 0) 35 3 (-1)) 35 7 0) 35 3 := rfl
  have w31 : (u2 (u2 (u2 (u2 dt 35 2 0) 35 3 (-1)) 35 7 0) 35 8 0) 35 7 = (u2 (u2 (u2 dt 35 2 0) 35 3 (-1)) 35 7 0) 35 7 := rfl
  have w32 : (u2 (u2 (u2 (u2 dt 35 2 0) 35 3 (-1)) 35 7 0) 35 8 0) 35 8 = 0 := rfl
  have w33 : (u2 (u2 (u2 (u2 dt 35 2 0) 35 3 (-1)) 35 7 0) 35 8 0) 35 12 = (u2 (u2 (u2 dt 35 2 0) 35 3 (-1)) 35 7 0) 35 12 := rfl
  refine go_smpq PM9 (L' := [some (.inr (.inr (some 35))), some (.inr (.inr (some 1000))), none, none]) (st' := []) (w' := (SH, (u2 (u2 (u2 (u2 dt 35 2 0) 35 3 (-1)) 35 7 0) 35 8 0))) rfl rfl (s_pf rfl rfl rfl rfl ⟨by decide, by decide⟩) ?_
  refine go_toq PM9 (k := 2) (pc' := 22) (L' := [some (.inr (.inr (some 35))), some (.inr (.inr (some 1000))), none, none]) (st' := [.inl 0, .inr (.inr (some 35))]) (w' := (SH, (u2 (u2 (u2 (u2 dt 35 2 0) 35 3 (-1)) 35 7 0) 35 8 0))) rfl ?_
  have hI34 : InvC (u2 (u2 (u2 (u2 (u2 dt 35 2 0) 35 3 (-1)) 35 7 0) 35 8 0) 35 12 0) := InvC_u2 hI26 (lo := 0) (hi := 500) rfl rfl rfl (by decide) (by decide)
  have hF35 : Fr [35, 37, 38, 39] dt (u2 (u2 (u2 (u2 (u2 dt 35 2 0) 35 3 (-1)) 35 7 0) 35 8 0) 35 12 0) := Fr_u2 hF27 (by decide)
  have w36 : (u2 (u2 (u2 (u2 (u2 dt 35 2 0) 35 3 (-1)) 35 7 0) 35 8 0) 35 12 0) 35 1 = (u2 (u2 (u2 (u2 dt 35 2 0) 35 3 (-1)) 35 7 0) 35 8 0) 35 1 := rfl
  have w37 : (u2 (u2 (u2 (u2 (u2 dt 35 2 0) 35 3 (-1)) 35 7 0) 35 8 0) 35 12 0) 35 2 = (u2 (u2 (u2 (u2 dt 35 2 0) 35 3 (-1)) 35 7 0) 35 8 0) 35 2 := rfl
  have w38 : (u2 (u2 (u2 (u2 (u2 dt 35 2 0) 35 3 (-1)) 35 7 0) 35 8 0) 35 12 0) 35 3 = (u2 (u2 (u2 (u2 dt 35 2 0) 35 3 (-1)) 35 7 0) 35 8 0) 35 3 := rfl
  have w39 : (u2 (u2 (u2 (u2 (u2 dt 35 2 0) 35 3 (-1)) 35 7 0) 35 8 0) 35 12 0) 35 7 = (u2 (u2 (u2 (u2 dt 35 2 0) 35 3 (-1)) 35 7 0) 35 8 0) 35 7 := rfl
  have w40 : (u2 (u2 (u2 (u2 (u2 dt 35 2 0) 35 3 (-1)) 35 7 0) 35 8 0) 35 12 0) 35 8 = (u2 (u2 (u2 (u2 dt 35 2 0) 35 3 (-1)) 35 7 0) 35 8 0) 35 8 := rfl
  have w41 : (u2 (u2 (u2 (u2 (u2 dt 35 2 0) 35 3 (-1)) 35 7 0) 35 8 0) 35 12 0) 35 12 = 0 := rfl
  refine go_smpq PM9 (L' := [some (.inr (.inr (some 35))), some (.inr (.inr (some 1000))), none, none]) (st' := []) (w' := (SH, (u2 (u2 (u2 (u2 (u2 dt 35 2 0) 35 3 (-1)) 35 7 0) 35 8 0) 35 12 0))) rfl rfl (s_pf rfl rfl rfl rfl ⟨by decide, by decide⟩) ?_
  refine go_toq PM9 (k := 2) (pc' := 27) (L' := [some (.inr (.inr (some 35))), some (.inr (.inr (some 1000))), some (.inl 0), none]) (st' := []) (w' := (SH, (u2 (u2 (u2 (u2 (u2 dt 35 2 0) 35 3 (-1)) 35 7 0) 35 8 0) 35 12 0))) rfl ?_
  have loop70 : ∀ (k_ : Nat) (l27_2 : Int) (dt58 : Nat → Nat → Int) (hI59 : InvC dt58) (hF60 : Fr [35, 37, 38, 39] dt dt58) (i61 : 0 ≤ l27_2 ∧ l27_2 ≤ 500) (i62 : l27_2 ≤ dt 35 1) (i63 : TKI 0 (mB (fun j => am_and (dt 36 j) 255) (dt 35 1)) (dt 35 1).toNat (dt58 37) (dt58 38) (dt58 39) (dt58 35 7) (l27_2).toNat) (i64 : 0 ≤ dt58 35 7 ∧ dt58 35 7 ≤ l27_2) (i65 : dt58 35 1 = dt 35 1) (i66 : dt58 35 2 = 0) (i67 : dt58 35 3 = -1) (i68 : dt58 35 8 = 0) (i69 : dt58 35 12 = 0), (510 - l27_2).toNat < k_ → GO (am_XX L xs sio) (d + 7) 9 27 [some (.inr (.inr (some 35))), some (.inr (.inr (some 1000))), some (.inl l27_2), none] [] (SH, dt58) (fun r w2 => ∃ dt2 : Nat → Nat → Int, w2 = (SH, dt2) ∧ InvC dt2 ∧ Fr [35, 37, 38, 39] dt dt2 ∧ ((r = none ∧ (dt2 35 1 = 0) ∧ (dt2 35 2 = 0) ∧ (dt2 35 3 = -1) ∧ (dt2 35 8 = 0) ∧ (dt2 35 12 = 0) ∧ (1 ≤ dt2 35 7) ∧ (TOK 0 (mB (fun j => am_and (dt 36 j) 255) (dt 35 1)) (dt 35 1).toNat dt2 (dt2 35 7 - 1).toNat)))) := by
    intro k_
    induction k_ with
    | zero => intro l27_2 dt58 hI59 hF60 i61 i62 i63 i64 i65 i66 i67 i68 i69 hm; exact absurd hm (Nat.not_lt_zero _)
    | succ k_ ih_loop70 =>
      intro l27_2 dt58 hI59 hF60 i61 i62 i63 i64 i65 i66 i67 i68 i69 hm
      have qT := i63
      have r71 : 0 ≤ dt58 35 1 ∧ dt58 35 1 ≤ 500 := InvC_get hI59 35 1 rfl rfl
      refine go_ifq PM9 (k := 3) (p1 := 81) (p2 := 35) (L' := [some (.inr (.inr (some 35))), some (.inr (.inr (some 1000))), some (.inl l27_2), none]) (st' := []) (w' := (SH, dt58)) rfl (c_ge (a := l27_2) (b := dt58 35 1) (by first | exact bnd i61 (by decide) (by decide) | exact ⟨by fail, by fail⟩) (by first | exact bnd r71 (by decide) (by decide) | exact ⟨by fail, by fail⟩)) (fun c72 => ?_) (fun c72 => ?_)
      · skip
        refine go_toq PM9 (k := 5) (pc' := 88) (L' := [some (.inr (.inr (some 35))), some (.inr (.inr (some 1000))), some (.inl l27_2), none]) (st' := [.inl (dt58 35 1), .inl 0, .inl 0, .inr (.inr (some 35))]) (w' := (SH, dt58)) rfl ?_
        refine go_callq PM9 PM15 (Q' := _) rfl rfl rfl rfl (sp_X1_addToken_f L xs sio (d + 6) dt58 hI59  0 ⟨by decide, by decide⟩ 0 (dt58 35 1) (by first | exact bnd r71 (by decide) (by decide) | exact ⟨by fail, by fail⟩) (by first | exact True.intro | with_reducible assumption | rfl | omega | trivial | (rw [show dt58 36 = dt 36 from funext (hF60 36 (by decide)), show dt58 35 1 = dt 35 1 by first | with_reducible assumption | fail]; exact hI))) ?_
        rintro _ _ ⟨dt74, rfl, hI75, hF76, h73⟩
        refine ⟨rfl, ?_⟩
        have hF77 : Fr [35, 37, 38, 39] dt dt74 := Fr_tr hF60 hF76 (by decide)
        rcases h73 with ⟨rfl, h73⟩
        obtain ⟨h73_0, h73_1, h73_2, h73_3, h73_4, h73_5, h73_6, h73_7, h73_8, h73_9, h73_10, h73_11⟩ := h73
        refine go_toq PM9 (k := 2) (pc' := 93) (L' := [some (.inr (.inr (some 35))), some (.inr (.inr (some 1000))), some (.inl l27_2), none]) (st' := [.inl 0, .inr (.inr (some 35))]) (w' := (SH, dt74)) rfl ?_
        have hI78 : InvC (u2 dt74 35 1 0) := InvC_u2 hI75 (lo := 0) (hi := 500) rfl rfl rfl (by decide) (by decide)
        have hF79 : Fr [35, 37, 38, 39] dt (u2 dt74 35 1 0) := Fr_u2 hF77 (by decide)
        have w80 : (u2 dt74 35 1 0) 35 1 = 0 := rfl
        have w81 : (u2 dt74 35 1 0) 35 2 = dt74 35 2 := rfl
        have w82 : (u2 dt74 35 1 0) 35 3 = dt74 35 3 := rfl
        have w83 : (u2 dt74 35 1 0) 35 7 = dt74 35 7 := rfl
        have w84 : (u2 dt74 35 1 0) 35 8 = dt74 35 8 := rfl
        have w85 : (u2 dt74 35 1 0) 35 12 = dt74 35 12 := rfl
        refine go_smpq PM9 (L' := [some (.inr (.inr (some 35))), some (.inr (.inr (some 1000))), some (.inl l27_2), none]) (st' := []) (w' := (SH, (u2 dt74 35 1 0))) rfl rfl (s_pf rfl rfl rfl rfl ⟨by decide, by decide⟩) ?_
        refine go_retq PM9 (k := 0) (r := none) (w1 := (SH, (u2 dt74 35 1 0))) rfl ?_
        exact ⟨(u2 dt74 35 1 0), rfl, hI78, hF79, ⟨rfl, ⟨by first | exact True.intro | with_reducible assumption | rfl | fail | trivial, by first | exact True.intro | with_reducible assumption | rfl | omega | trivial, by first | exact True.intro | with_reducible assumption | rfl | omega | trivial, by first | exact True.intro | with_reducible assumption | rfl | omega | trivial, by first | exact True.intro | with_reducible assumption | rfl | omega | trivial, by first | exact True.intro | with_reducible assumption | rfl | omega | trivial, by exact TOK_e qT (by omega) (by omega) (by omega) h73_1 h73_2 h73_3 h73_4 ((h73_6).trans (by omega)) (by omega) (by omega)⟩⟩⟩
      · skip
        refine go_toq PM9 (k := 2) (pc' := 37) (L' := [some (.inr (.inr (some 35))), some (.inr (.inr (some 1000))), some (.inl l27_2), none]) (st' := [.inl l27_2, .inr (.inr (some 35))]) (w' := (SH, dt58)) rfl ?_
        refine go_callq PM9 PM14 (Q' := _) rfl rfl rfl rfl (sp_X1_runEnd_f L xs sio (d + 5) dt58 hI59  l27_2 (by first | exact bnd i61 (by decide) (by decide) | exact bndd i61 c72 (by decide) (by decide) | exact ⟨by omega, by omega⟩) (by first | exact True.intro | with_reducible assumption | rfl | omega | trivial | (rw [show dt58 36 = dt 36 from funext (hF60 36 (by decide)), show dt58 35 1 = dt 35 1 by first | with_reducible assumption | fail]; exact hI))) ?_
        rintro _ _ ⟨rfl, h86⟩
        refine ⟨rfl, ?_⟩
        rcases h86 with ⟨v_h86, rfl, h86r, h86⟩
        obtain ⟨h86_0, h86_1, h86_2⟩ := h86
        rw [show dt58 36 = dt 36 from funext (hF60 36 (by decide)), show dt58 35 1 = dt 35 1 by first | with_reducible assumption | fail] at h86_0
        refine go_toq PM9 (k := 3) (pc' := 43) (L' := [some (.inr (.inr (some 35))), some (.inr (.inr (some 1000))), some (.inl l27_2), some (.inl v_h86)]) (st' := [.inl l27_2, .inr (.inr (some 35))]) (w' := (SH, dt58)) rfl ?_
        refine go_callq PM9 PM10 (Q' := _) rfl rfl rfl rfl (sp_X1_byteAt_f L xs sio (d + 6) dt58 hI59  l27_2 (by first | exact bnd i61 (by decide) (by decide) | exact bndd i61 c72 (by decide) (by decide) | exact ⟨by fail, by fail⟩) ) ?_
        rintro _ _ ⟨rfl, h87⟩
        refine ⟨rfl, ?_⟩
        rcases h87 with ⟨v_h87, rfl, h87r, h87⟩
        rw [show dt58 36 = dt 36 from funext (hF60 36 (by decide)), show dt58 35 1 = dt 35 1 by first | with_reducible assumption | fail] at h87
        refine go_callq PM9 PM11 (Q' := _) rfl rfl rfl rfl (sp_X1_isBlank_f L xs sio (d + 6) dt58 hI59  v_h87 (by first | exact bnd h87r (by decide) (by decide) | exact ⟨by fail, by fail⟩) ) ?_
        rintro _ _ ⟨rfl, h88⟩
        refine ⟨rfl, ?_⟩
        rcases h88 with ⟨v_h88, rfl, h88r, h88⟩
        refine go_ifq PM9 (k := 0) (p1 := 70) (p2 := 52) (L' := [some (.inr (.inr (some 35))), some (.inr (.inr (some 1000))), some (.inl l27_2), some (.inl v_h86)]) (st' := []) (w' := (SH, dt58)) rfl (z_ne (a := v_h88) (by first | exact bnd h88r (by decide) (by decide) | exact ⟨by fail, by fail⟩)) (fun c89 => ?_) (fun c89 => ?_)
        · skip
          replace c89 := hid c89
          refine go_toq PM9 (k := 4) (pc' := 74) (L' := [some (.inr (.inr (some 35))), some (.inr (.inr (some 1000))), some (.inl l27_2), some (.inl v_h86)]) (st' := [.inl (l27_2 + 1), .inl v_h86]) (w' := (SH, dt58)) rfl ?_
          refine go_callq PM9 PM265 (Q' := _) rfl rfl rfl rfl (sp_J9_max_7cf53 L xs sio (d + 6) dt58 hI59  v_h86 (by first | exact bnd h86r (by decide) (by decide) | exact ⟨by fail, by fail⟩) (l27_2 + 1) (by first | exact bndp i61 (by decide) (by decide) | exact ⟨by fail, by fail⟩) ) ?_
          rintro _ _ ⟨rfl, h90⟩
          refine ⟨rfl, ?_⟩
          rcases h90 with ⟨v_h90, rfl, h90r, h90⟩
          refine go_toq PM9 (k := 2) (pc' := 27) (L' := [some (.inr (.inr (some 35))), some (.inr (.inr (some 1000))), some (.inl v_h90), some (.inl v_h86)]) (st' := []) (w' := (SH, dt58)) rfl ?_
          exact GO.le (ih_loop70 v_h90 dt58 hI59 hF60 (by first | with_reducible assumption | exact unhid (by with_reducible assumption) | omega | exact TKI_0 | (have z := TE_1 (n := dt 35 1) (p := l27_2) (by fail) (pLf h87 (by fail)) (pDf h87 (by fail)); exact TKI_x (TKI_b qT (by fail) (by fail) (pBt h87 (by fail))) rfl (by fail)) | exact TKI_x (TKI_t qT (by fail) (by fail) (by fail) (pBf h87 (by fail)) h86_0 hI_1 hI_2 hI_3 (by fail) (VL_e h86_0 hI hI_5 (by fail)) hI_6) (by fail) (by fail)) (by first | with_reducible assumption | exact unhid (by with_reducible assumption) | omega | exact TKI_0 | (have z := TE_1 (n := dt 35 1) (p := l27_2) (by fail) (pLf h87 (by fail)) (pDf h87 (by fail)); exact TKI_x (TKI_b qT (by fail) (by fail) (pBt h87 (by fail))) rfl (by fail)) | exact TKI_x (TKI_t qT (by fail) (by fail) (by fail) (pBf h87 (by fail)) h86_0 hI_1 hI_2 hI_3 (by fail) (VL_e h86_0 hI hI_5 (by fail)) hI_6) (by fail) (by fail)) (by first | with_reducible assumption | exact unhid (by with_reducible assumption) | fail | exact TKI_0 | (have z := TE_1 (n := dt 35 1) (p := l27_2) (by omega) (pLf h87 (by (have z0_ := unhid c89; omega))) (pDf h87 (by (have z0_ := unhid c89; omega))); exact TKI_x (TKI_b qT (by omega) (by omega) (pBt h87 (by (have z0_ := unhid c89; omega)))) rfl (by omega)) | exact TKI_x (TKI_t qT (by fail) (by fail) (by fail) (pBf h87 (by fail)) h86_0 hI_1 hI_2 hI_3 (by fail) (VL_e h86_0 hI hI_5 (by fail)) hI_6) (by fail) (by fail)) (by first | with_reducible assumption | exact unhid (by with_reducible assumption) | omega | exact TKI_0 | (have z := TE_1 (n := dt 35 1) (p := l27_2) (by fail) (pLf h87 (by fail)) (pDf h87 (by fail)); exact TKI_x (TKI_b qT (by fail) (by fail) (pBt h87 (by fail))) rfl (by fail)) | exact TKI_x (TKI_t qT (by fail) (by fail) (by fail) (pBf h87 (by fail)) h86_0 hI_1 hI_2 hI_3 (by fail) (VL_e h86_0 hI hI_5 (by fail)) hI_6) (by fail) (by fail)) (by first | with_reducible assumption | exact unhid (by with_reducible assumption) | fail | exact TKI_0 | (have z := TE_1 (n := dt 35 1) (p := l27_2) (by fail) (pLf h87 (by fail)) (pDf h87 (by fail)); exact TKI_x (TKI_b qT (by fail) (by fail) (pBt h87 (by fail))) rfl (by fail)) | exact TKI_x (TKI_t qT (by fail) (by fail) (by fail) (pBf h87 (by fail)) h86_0 hI_1 hI_2 hI_3 (by fail) (VL_e h86_0 hI hI_5 (by fail)) hI_6) (by fail) (by fail)) (by first | with_reducible assumption | exact unhid (by with_reducible assumption) | fail | exact TKI_0 | (have z := TE_1 (n := dt 35 1) (p := l27_2) (by fail) (pLf h87 (by fail)) (pDf h87 (by fail)); exact TKI_x (TKI_b qT (by fail) (by fail) (pBt h87 (by fail))) rfl (by fail)) | exact TKI_x (TKI_t qT (by fail) (by fail) (by fail) (pBf h87 (by fail)) h86_0 hI_1 hI_2 hI_3 (by fail) (VL_e h86_0 hI hI_5 (by fail)) hI_6) (by fail) (by fail)) (by first | with_reducible assumption | exact unhid (by with_reducible assumption) | fail | exact TKI_0 | (have z := TE_1 (n := dt 35 1) (p := l27_2) (by fail) (pLf h87 (by fail)) (pDf h87 (by fail)); exact TKI_x (TKI_b qT (by fail) (by fail) (pBt h87 (by fail))) rfl (by fail)) | exact TKI_x (TKI_t qT (by fail) (by fail) (by fail) (pBf h87 (by fail)) h86_0 hI_1 hI_2 hI_3 (by fail) (VL_e h86_0 hI hI_5 (by fail)) hI_6) (by fail) (by fail)) (by first | with_reducible assumption | exact unhid (by with_reducible assumption) | fail | exact TKI_0 | (have z := TE_1 (n := dt 35 1) (p := l27_2) (by fail) (pLf h87 (by fail)) (pDf h87 (by fail)); exact TKI_x (TKI_b qT (by fail) (by fail) (pBt h87 (by fail))) rfl (by fail)) | exact TKI_x (TKI_t qT (by fail) (by fail) (by fail) (pBf h87 (by fail)) h86_0 hI_1 hI_2 hI_3 (by fail) (VL_e h86_0 hI hI_5 (by fail)) hI_6) (by fail) (by fail)) (by first | with_reducible assumption | exact unhid (by with_reducible assumption) | fail | exact TKI_0 | (have z := TE_1 (n := dt 35 1) (p := l27_2) (by fail) (pLf h87 (by fail)) (pDf h87 (by fail)); exact TKI_x (TKI_b qT (by fail) (by fail) (pBt h87 (by fail))) rfl (by fail)) | exact TKI_x (TKI_t qT (by fail) (by fail) (by fail) (pBf h87 (by fail)) h86_0 hI_1 hI_2 hI_3 (by fail) (VL_e h86_0 hI hI_5 (by fail)) hI_6) (by fail) (by fail)) (by omega)) ⟨.inl rfl, .inl rfl, .inl rfl, .inr ⟨rfl, trivial⟩, trivial⟩
        · skip
          refine go_toq PM9 (k := 5) (pc' := 57) (L' := [some (.inr (.inr (some 35))), some (.inr (.inr (some 1000))), some (.inl l27_2), some (.inl v_h86)]) (st' := [.inl v_h86, .inl l27_2, .inr (.inr (some 1000)), .inr (.inr (some 35)), .inr (.inr (some 35))]) (w' := (SH, dt58)) rfl ?_
          refine go_callq PM9 PM16 (Q' := _) rfl rfl rfl rfl (sp_X1_kindOf_0f L xs sio (d + 0) dt58 hI59  l27_2 (by first | exact bnd i61 (by decide) (by decide) | exact bndd i61 c72 (by decide) (by decide) | exact ⟨by omega, by omega⟩) v_h86 (by first | exact bnd h86r (by decide) (by decide) | exact ⟨by fail, by fail⟩) (by first | exact True.intro | with_reducible assumption | rfl | omega | trivial | (rw [show dt58 36 = dt 36 from funext (hF60 36 (by decide)), show dt58 35 1 = dt 35 1 by first | with_reducible assumption | fail]; exact h86_0)) (by first | exact True.intro | with_reducible assumption | rfl | fail | trivial | (rw [show dt58 36 = dt 36 from funext (hF60 36 (by decide)), show dt58 35 1 = dt 35 1 by first | with_reducible assumption | fail]; exact h86_0)) (by first | exact True.intro | with_reducible assumption | rfl | omega | trivial | (rw [show dt58 36 = dt 36 from funext (hF60 36 (by decide)), show dt58 35 1 = dt 35 1 by first | with_reducible assumption | fail]; exact h86_0))) ?_
          rintro _ _ ⟨rfl, h91⟩
          refine ⟨rfl, ?_⟩
          rcases h91 with ⟨v_h91, rfl, h91r, h91⟩
          rw [show dt58 36 = dt 36 from funext (hF60 36 (by decide)), show dt58 35 1 = dt 35 1 by first | with_reducible assumption | fail] at h91
          refine go_toq PM9 (k := 3) (pc' := 63) (L' := [some (.inr (.inr (some 35))), some (.inr (.inr (some 1000))), some (.inl l27_2), some (.inl v_h86)]) (st' := [.inl v_h86, .inl l27_2, .inr (.inr (some 35)), .inl v_h91, .inr (.inr (some 35))]) (w' := (SH, dt58)) rfl ?_
          refine go_callq PM9 PM17 (Q' := _) rfl rfl rfl rfl (sp_X1_numberOf_f L xs sio (d + 5) dt58 hI59  l27_2 (by first | exact bnd i61 (by decide) (by decide) | exact bndd i61 c72 (by decide) (by decide) | exact ⟨by omega, by omega⟩) v_h86 (by first | exact bnd h86r (by decide) (by decide) | exact ⟨by fail, by fail⟩) (by first | exact True.intro | with_reducible assumption | rfl | omega | trivial | (rw [show dt58 36 = dt 36 from funext (hF60 36 (by decide)), show dt58 35 1 = dt 35 1 by first | with_reducible assumption | fail]; exact h86_0))) ?_
          rintro _ _ ⟨rfl, h92⟩
          refine ⟨rfl, ?_⟩
          rcases h92 with ⟨v_h92, rfl, h92r, h92⟩
          rw [show dt58 36 = dt 36 from funext (hF60 36 (by decide)), show dt58 35 1 = dt 35 1 by first | with_reducible assumption | fail] at h92
          refine go_toq PM9 (k := 1) (pc' := 67) (L' := [some (.inr (.inr (some 35))), some (.inr (.inr (some 1000))), some (.inl l27_2), some (.inl v_h86)]) (st' := [.inl l27_2, .inl v_h92, .inl v_h91, .inr (.inr (some 35))]) (w' := (SH, dt58)) rfl ?_
          refine go_callq PM9 PM15 (Q' := _) rfl rfl rfl rfl (sp_X1_addToken_f L xs sio (d + 6) dt58 hI59  v_h91 (by first | exact bnd h91r (by decide) (by decide) | exact ⟨by fail, by fail⟩) v_h92 l27_2 (by first | exact bnd i61 (by decide) (by decide) | exact bndd i61 c72 (by decide) (by decide) | exact ⟨by fail, by fail⟩) (by first | exact True.intro | with_reducible assumption | rfl | omega | trivial | (rw [show dt58 36 = dt 36 from funext (hF60 36 (by decide)), show dt58 35 1 = dt 35 1 by first | with_reducible assumption | fail]; exact h86_0))) ?_
          rintro _ _ ⟨dt94, rfl, hI95, hF96, h93⟩
          refine ⟨rfl, ?_⟩
          have hF97 : Fr [35, 37, 38, 39] dt dt94 := Fr_tr hF60 hF96 (by decide)
          rcases h93 with ⟨rfl, h93⟩
          obtain ⟨h93_0, h93_1, h93_2, h93_3, h93_4, h93_5, h93_6, h93_7, h93_8, h93_9, h93_10, h93_11⟩ := h93
          refine go_toq PM9 (k := 4) (pc' := 74) (L' := [some (.inr (.inr (some 35))), some (.inr (.inr (some 1000))), some (.inl l27_2), some (.inl v_h86)]) (st' := [.inl (l27_2 + 1), .inl v_h86]) (w' := (SH, dt94)) rfl ?_
          refine go_callq PM9 PM265 (Q' := _) rfl rfl rfl rfl (sp_J9_max_7cf53 L xs sio (d + 6) dt94 hI95  v_h86 (by first | exact bnd h86r (by decide) (by decide) | exact ⟨by fail, by fail⟩) (l27_2 + 1) (by first | exact bndp i61 (by decide) (by decide) | exact ⟨by fail, by fail⟩) ) ?_
          rintro _ _ ⟨rfl, h98⟩
          refine ⟨rfl, ?_⟩
          rcases h98 with ⟨v_h98, rfl, h98r, h98⟩
          refine go_toq PM9 (k := 2) (pc' := 27) (L' := [some (.inr (.inr (some 35))), some (.inr (.inr (some 1000))), some (.inl v_h98), some (.inl v_h86)]) (st' := []) (w' := (SH, dt94)) rfl ?_
          exact GO.le (ih_loop70 v_h98 dt94 hI95 hF97 (by first | with_reducible assumption | omega | exact TKI_0 | (have z := TE_1 (n := dt 35 1) (p := l27_2) (by fail) (pLf h87 (by fail)) (pDf h87 (by fail)); exact TKI_x (TKI_b qT (by fail) (by fail) (pBt h87 (by fail))) rfl (by fail)) | exact TKI_x (TKI_t qT (by fail) (by fail) (by fail) (pBf h87 (by fail)) h86_0 h93_1 h93_2 h93_3 (by fail) (VL_e h86_0 h92 h93_5 (by fail)) h93_6) (by fail) (by fail)) (by first | with_reducible assumption | omega | exact TKI_0 | (have z := TE_1 (n := dt 35 1) (p := l27_2) (by fail) (pLf h87 (by fail)) (pDf h87 (by fail)); exact TKI_x (TKI_b qT (by fail) (by fail) (pBt h87 (by fail))) rfl (by fail)) | exact TKI_x (TKI_t qT (by fail) (by fail) (by fail) (pBf h87 (by fail)) h86_0 h93_1 h93_2 h93_3 (by fail) (VL_e h86_0 h92 h93_5 (by fail)) h93_6) (by fail) (by fail)) (by first | with_reducible assumption | fail | exact TKI_0 | (have z := TE_1 (n := dt 35 1) (p := l27_2) (by omega) (pLf h87 (by fail)) (pDf h87 (by fail)); exact TKI_x (TKI_b qT (by fail) (by fail) (pBt h87 (by fail))) rfl (by fail)) | exact TKI_x (TKI_t qT (by omega) (by omega) (by omega) (pBf h87 (by omega)) h86_0 h93_1 h93_2 h93_3 (by omega) (VL_e h86_0 h92 h93_5 (by omega)) h93_6) (by omega) (by omega)) (by first | with_reducible assumption | omega | exact TKI_0 | (have z := TE_1 (n := dt 35 1) (p := l27_2) (by fail) (pLf h87 (by fail)) (pDf h87 (by fail)); exact TKI_x (TKI_b qT (by fail) (by fail) (pBt h87 (by fail))) rfl (by fail)) | exact TKI_x (TKI_t qT (by fail) (by fail) (by fail) (pBf h87 (by fail)) h86_0 h93_1 h93_2 h93_3 (by fail) (VL_e h86_0 h92 h93_5 (by fail)) h93_6) (by fail) (by fail)) (by first | with_reducible assumption | omega | exact TKI_0 | (have z := TE_1 (n := dt 35 1) (p := l27_2) (by fail) (pLf h87 (by fail)) (pDf h87 (by fail)); exact TKI_x (TKI_b qT (by fail) (by fail) (pBt h87 (by fail))) rfl (by fail)) | exact TKI_x (TKI_t qT (by fail) (by fail) (by fail) (pBf h87 (by fail)) h86_0 h93_1 h93_2 h93_3 (by fail) (VL_e h86_0 h92 h93_5 (by fail)) h93_6) (by fail) (by fail)) (by first | with_reducible assumption | omega | exact TKI_0 | (have z := TE_1 (n := dt 35 1) (p := l27_2) (by fail) (pLf h87 (by fail)) (pDf h87 (by fail)); exact TKI_x (TKI_b qT (by fail) (by fail) (pBt h87 (by fail))) rfl (by fail)) | exact TKI_x (TKI_t qT (by fail) (by fail) (by fail) (pBf h87 (by fail)) h86_0 h93_1 h93_2 h93_3 (by fail) (VL_e h86_0 h92 h93_5 (by fail)) h93_6) (by fail) (by fail)) (by first | with_reducible assumption | omega | exact TKI_0 | (have z := TE_1 (n := dt 35 1) (p := l27_2) (by fail) (pLf h87 (by fail)) (pDf h87 (by fail)); exact TKI_x (TKI_b qT (by fail) (by fail) (pBt h87 (by fail))) rfl (by fail)) | exact TKI_x (TKI_t qT (by fail) (by fail) (by fail) (pBf h87 (by fail)) h86_0 h93_1 h93_2 h93_3 (by fail) (VL_e h86_0 h92 h93_5 (by fail)) h93_6) (by fail) (by fail)) (by first | with_reducible assumption | omega | exact TKI_0 | (have z := TE_1 (n := dt 35 1) (p := l27_2) (by fail) (pLf h87 (by fail)) (pDf h87 (by fail)); exact TKI_x (TKI_b qT (by fail) (by fail) (pBt h87 (by fail))) rfl (by fail)) | exact TKI_x (TKI_t qT (by fail) (by fail) (by fail) (pBf h87 (by fail)) h86_0 h93_1 h93_2 h93_3 (by fail) (VL_e h86_0 h92 h93_5 (by fail)) h93_6) (by fail) (by fail)) (by first | with_reducible assumption | omega | exact TKI_0 | (have z := TE_1 (n := dt 35 1) (p := l27_2) (by fail) (pLf h87 (by fail)) (pDf h87 (by fail)); exact TKI_x (TKI_b qT (by fail) (by fail) (pBt h87 (by fail))) rfl (by fail)) | exact TKI_x (TKI_t qT (by fail) (by fail) (by fail) (pBf h87 (by fail)) h86_0 h93_1 h93_2 h93_3 (by fail) (VL_e h86_0 h92 h93_5 (by fail)) h93_6) (by fail) (by fail)) (by omega)) ⟨.inl rfl, .inl rfl, .inl rfl, .inr ⟨rfl, trivial⟩, trivial⟩
  exact GO.le (loop70 _ 0 (u2 (u2 (u2 (u2 (u2 dt 35 2 0) 35 3 (-1)) 35 7 0) 35 8 0) 35 12 0) hI34 hF35 (by first | with_reducible assumption | omega | exact TKI_0 | (have z := TE_1 (n := dt 35 1) (p := l27_2) (by fail) (pLf hI (by fail)) (pDf hI (by fail)); exact TKI_x (TKI_b qT (by fail) (by fail) (pBt hI (by fail))) rfl (by fail)) | exact TKI_x (TKI_t qT (by fail) (by fail) (by fail) (pBf hI (by fail)) hI hI_1 hI_2 hI_3 (by fail) (VL_e hI hI hI_5 (by fail)) hI_6) (by fail) (by fail)) (by first | with_reducible assumption | omega | exact TKI_0 | (have z := TE_1 (n := dt 35 1) (p := l27_2) (by fail) (pLf hI (by fail)) (pDf hI (by fail)); exact TKI_x (TKI_b qT (by fail) (by fail) (pBt hI (by fail))) rfl (by fail)) | exact TKI_x (TKI_t qT (by fail) (by fail) (by fail) (pBf hI (by fail)) hI hI_1 hI_2 hI_3 (by fail) (VL_e hI hI hI_5 (by fail)) hI_6) (by fail) (by fail)) (by first | with_reducible assumption | fail | exact TKI_0 | (have z := TE_1 (n := dt 35 1) (p := l27_2) (by fail) (pLf hI (by fail)) (pDf hI (by fail)); exact TKI_x (TKI_b qT (by fail) (by fail) (pBt hI (by fail))) rfl (by fail)) | exact TKI_x (TKI_t qT (by fail) (by fail) (by fail) (pBf hI (by fail)) hI hI_1 hI_2 hI_3 (by fail) (VL_e hI hI hI_5 (by fail)) hI_6) (by fail) (by fail)) (by first | with_reducible assumption | omega | exact TKI_0 | (have z := TE_1 (n := dt 35 1) (p := l27_2) (by fail) (pLf hI (by fail)) (pDf hI (by fail)); exact TKI_x (TKI_b qT (by fail) (by fail) (pBt hI (by fail))) rfl (by fail)) | exact TKI_x (TKI_t qT (by fail) (by fail) (by fail) (pBf hI (by fail)) hI hI_1 hI_2 hI_3 (by fail) (VL_e hI hI hI_5 (by fail)) hI_6) (by fail) (by fail)) (by first | with_reducible assumption | omega | exact TKI_0 | (have z := TE_1 (n := dt 35 1) (p := l27_2) (by fail) (pLf hI (by fail)) (pDf hI (by fail)); exact TKI_x (TKI_b qT (by fail) (by fail) (pBt hI (by fail))) rfl (by fail)) | exact TKI_x (TKI_t qT (by fail) (by fail) (by fail) (pBf hI (by fail)) hI hI_1 hI_2 hI_3 (by fail) (VL_e hI hI hI_5 (by fail)) hI_6) (by fail) (by fail)) (by first | with_reducible assumption | omega | exact TKI_0 | (have z := TE_1 (n := dt 35 1) (p := l27_2) (by fail) (pLf hI (by fail)) (pDf hI (by fail)); exact TKI_x (TKI_b qT (by fail) (by fail) (pBt hI (by fail))) rfl (by fail)) | exact TKI_x (TKI_t qT (by fail) (by fail) (by fail) (pBf hI (by fail)) hI hI_1 hI_2 hI_3 (by fail) (VL_e hI hI hI_5 (by fail)) hI_6) (by fail) (by fail)) (by first | with_reducible assumption | omega | exact TKI_0 | (have z := TE_1 (n := dt 35 1) (p := l27_2) (by fail) (pLf hI (by fail)) (pDf hI (by fail)); exact TKI_x (TKI_b qT (by fail) (by fail) (pBt hI (by fail))) rfl (by fail)) | exact TKI_x (TKI_t qT (by fail) (by fail) (by fail) (pBf hI (by fail)) hI hI_1 hI_2 hI_3 (by fail) (VL_e hI hI hI_5 (by fail)) hI_6) (by fail) (by fail)) (by first | with_reducible assumption | omega | exact TKI_0 | (have z := TE_1 (n := dt 35 1) (p := l27_2) (by fail) (pLf hI (by fail)) (pDf hI (by fail)); exact TKI_x (TKI_b qT (by fail) (by fail) (pBt hI (by fail))) rfl (by fail)) | exact TKI_x (TKI_t qT (by fail) (by fail) (by fail) (pBf hI (by fail)) hI hI_1 hI_2 hI_3 (by fail) (VL_e hI hI hI_5 (by fail)) hI_6) (by fail) (by fail)) (by first | with_reducible assumption | fail | exact TKI_0 | (have z := TE_1 (n := dt 35 1) (p := l27_2) (by fail) (pLf hI (by fail)) (pDf hI (by fail)); exact TKI_x (TKI_b qT (by fail) (by fail) (pBt hI (by fail))) rfl (by fail)) | exact TKI_x (TKI_t qT (by fail) (by fail) (by fail) (pBf hI (by fail)) hI hI_1 hI_2 hI_3 (by fail) (VL_e hI hI hI_5 (by fail)) hI_6) (by fail) (by fail)) (Nat.lt_succ_self _)) ⟨.inl rfl, .inl rfl, .inl rfl, .inl rfl, trivial⟩
set_option maxHeartbeats 8000000 in
theorem sp_X1_start_1f (L : Nat) (xs : Nat → Int32) (sio : Option Nat) (d : Nat) (dt : Nat → Nat → Int) (hI : InvC dt)    : GO (am_XX L xs sio) (d + 7) 9 0 [some (.inr (.inr (some 35))), some (.inr (.inr (some 1001))), none, none] [] (SH, dt) (fun r w2 => ∃ dt2 : Nat → Nat → Int, w2 = (SH, dt2) ∧ InvC dt2 ∧ Fr [35, 37, 38, 39] dt dt2 ∧ ((r = none ∧ (dt2 35 1 = 0) ∧ (dt2 35 2 = 0) ∧ (dt2 35 3 = -1) ∧ (dt2 35 8 = 0) ∧ (dt2 35 12 = 0) ∧ (1 ≤ dt2 35 7) ∧ (TOK 1 (mB (fun j => am_and (dt 36 j) 255) (dt 35 1)) (dt 35 1).toNat dt2 (dt2 35 7 - 1).toNat)))) := by
  have hF : Fr [35, 37, 38, 39] dt dt := Fr_refl
  have r1 : 0 ≤ dt 35 1 ∧ dt 35 1 ≤ 500 := InvC_get hI 35 1 rfl rfl
  refine go_toq PM9 (k := 2) (pc' := 2) (L' := [some (.inr (.inr (some 35))), some (.inr (.inr (some 1001))), none, none]) (st' := [.inl 0, .inr (.inr (some 35))]) (w' := (SH, dt)) rfl ?_
  have hI2 : InvC (u2 dt 35 2 0) := InvC_u2 hI (lo := -2147483648) (hi := 2147483647) rfl rfl rfl (by decide) (by decide)
  have hF3 : Fr [35, 37, 38, 39] dt (u2 dt 35 2 0) := Fr_u2 hF (by decide)
  have w4 : (u2 dt 35 2 0) 35 1 = dt 35 1 := rfl
  have w5 : (u2 dt 35 2 0) 35 2 = 0 := rfl
  have w6 : (u2 dt 35 2 0) 35 3 = dt 35 3 := rfl
  have w7 : (u2 dt 35 2 0) 35 7 = dt 35 7 := rfl
  have w8 : (u2 dt 35 2 0) 35 8 = dt 35 8 := rfl
  have w9 : (u2 dt 35 2 0) 35 12 = dt 35 12 := rfl
  refine go_smpq PM9 (L' := [some (.inr (.inr (some 35))), some (.inr (.inr (some 1001))), none, none]) (st' := []) (w' := (SH, (u2 dt 35 2 0))) rfl rfl (s_pf rfl rfl rfl rfl ⟨by decide, by decide⟩) ?_
  refine go_toq PM9 (k := 2) (pc' := 7) (L' := [some (.inr (.inr (some 35))), some (.inr (.inr (some 1001))), none, none]) (st' := [.inl (-1), .inr (.inr (some 35))]) (w' := (SH, (u2 dt 35 2 0))) rfl ?_
  have hI10 : InvC (u2 (u2 dt 35 2 0) 35 3 (-1)) := InvC_u2 hI2 (lo := -2147483648) (hi := 2147483647) rfl rfl rfl (by decide) (by decide)
  have hF11 : Fr [35, 37, 38, 39] dt (u2 (u2 dt 35 2 0) 35 3 (-1)) := Fr_u2 hF3 (by decide)
  have w12 : (u2 (u2 dt 35 2 0) 35 3 (-1)) 35 1 = (u2 dt 35 2 0) 35 1 := rfl
  have w13 : (u2 (u2 dt 35 2 0) 35 3 (-1)) 35 2 = (u2 dt 35 2 0) 35 2 := rfl
  have w14 : (u2 (u2 dt 35 2 0) 35 3 (-1)) 35 3 = (-1) := rfl
  have w15 : (u2 (u2 dt 35 2 0) 35 3 (-1)) 35 7 = (u2 dt 35 2 0) 35 7 := rfl
  have w16 : (u2 (u2 dt 35 2 0) 35 3 (-1)) 35 8 = (u2 dt 35 2 0) 35 8 := rfl
  have w17 : (u2 (u2 dt 35 2 0) 35 3 (-1)) 35 12 = (u2 dt 35 2 0) 35 12 := rfl
  refine go_smpq PM9 (L' := [some (.inr (.inr (some 35))), some (.inr (.inr (some 1001))), none, none]) (st' := []) (w' := (SH, (u2 (u2 dt 35 2 0) 35 3 (-1)))) rfl rfl (s_pf rfl rfl rfl rfl ⟨by decide, by decide⟩) ?_
  refine go_toq PM9 (k := 2) (pc' := 12) (L' := [some (.inr (.inr (some 35))), some (.inr (.inr (some 1001))), none, none]) (st' := [.inl 0, .inr (.inr (some 35))]) (w' := (SH, (u2 (u2 dt 35 2 0) 35 3 (-1)))) rfl ?_
  have hI18 : InvC (u2 (u2 (u2 dt 35 2 0) 35 3 (-1)) 35 7 0) := InvC_u2 hI10 (lo := 0) (hi := 501) rfl rfl rfl (by decide) (by decide)
  have hF19 : Fr [35, 37, 38, 39] dt (u2 (u2 (u2 dt 35 2 0) 35 3 (-1)) 35 7 0) := Fr_u2 hF11 (by decide)
  have w20 : (u2 (u2 (u2 dt 35 2 0) 35 3 (-1)) 35 7 0) 35 1 = (u2 (u2 dt 35 2 0) 35 3 (-1)) 35 1 := rfl
  have w21 : (u2 (u2 (u2 dt 35 2 0) 35 3 (-1)) 35 7 0) 35 2 = (u2 (u2 dt 35 2 0) 35 3 (-1)) 35 2 := rfl
  have w22 : (u2 (u2 (u2 dt 35 2 0) 35 3 (-1)) 35 7 0) 35 3 = (u2 (u2 dt 35 2 0) 35 3 (-1)) 35 3 := rfl
  have w23 : (u2 (u2 (u2 dt 35 2 0) 35 3 (-1)) 35 7 0) 35 7 = 0 := rfl
  have w24 : (u2 (u2 (u2 dt 35 2 0) 35 3 (-1)) 35 7 0) 35 8 = (u2 (u2 dt 35 2 0) 35 3 (-1)) 35 8 := rfl
  have w25 : (u2 (u2 (u2 dt 35 2 0) 35 3 (-1)) 35 7 0) 35 12 = (u2 (u2 dt 35 2 0) 35 3 (-1)) 35 12 := rfl
  refine go_smpq PM9 (L' := [some (.inr (.inr (some 35))), some (.inr (.inr (some 1001))), none, none]) (st' := []) (w' := (SH, (u2 (u2 (u2 dt 35 2 0) 35 3 (-1)) 35 7 0))) rfl rfl (s_pf rfl rfl rfl rfl ⟨by decide, by decide⟩) ?_
  refine go_toq PM9 (k := 2) (pc' := 17) (L' := [some (.inr (.inr (some 35))), some (.inr (.inr (some 1001))), none, none]) (st' := [.inl 0, .inr (.inr (some 35))]) (w' := (SH, (u2 (u2 (u2 dt 35 2 0) 35 3 (-1)) 35 7 0))) rfl ?_
  have hI26 : InvC (u2 (u2 (u2 (u2 dt 35 2 0) 35 3 (-1)) 35 7 0) 35 8 0) := InvC_u2 hI18 (lo := -2147483648) (hi := 2147483647) rfl rfl rfl (by decide) (by decide)
  have hF27 : Fr [35, 37, 38, 39] dt (u2 (u2 (u2 (u2 dt 35 2 0) 35 3 (-1)) 35 7 0) 35 8 0) := Fr_u2 hF19 (by decide)
  have w28 : (u2 (u2 (u2 (u2 dt 35 2 0) 35 3 (-1)) 35 7 0) 35 8 0) 35 1 = (u2 (u2 (u2 dt 35 2 0) 35 3 (-1)) 35 7 0) 35 1 := rfl
  have w29 : (u2 (u2 (u2 (u2 dt 35 2 0) 35 3 (-1)) 35 7 0) 35 8 0) 35 2 = (u2 (u2 (u2 dt 35 2 0) 35 3 (-1)) 35 7 0) 35 2 := rfl
  have w30 : (u2 (u2 (u2 (u2 dt 35 2 0) 35 3 (-1)) 35 7 0) 35 8 0) 35 3 = (u2 (u2 (u2 dt 35 2 0) 35 3 (-1)) 35 7 0) 35 3 := rfl
  have w31 : (u2 (u2 (u2 (u2 dt 35 2 0) 35 3 (-1)) 35 7 0) 35 8 0) 35 7 = (u2 (u2 (u2 dt 35 2 0) 35 3 (-1)) 35 7 0) 35 7 := rfl
  have w32 : (u2 (u2 (u2 (u2 dt 35 2 0) 35 3 (-1)) 35 7 0) 35 8 0) 35 8 = 0 := rfl
  have w33 : (u2 (u2 (u2 (u2 dt 35 2 0) 35 3 (-1)) 35 7 0) 35 8 0) 35 12 = (u2 (u2 (u2 dt 35 2 0) 35 3 (-1)) 35 7 0) 35 12 := rfl
  refine go_smpq PM9 (L' := [some (.inr (.inr (some 35))), some (.inr (.inr (some 1001))), none, none]) (st' := []) (w' := (SH, (u2 (u2 (u2 (u2 dt 35 2 0) 35 3 (-1)) 35 7 0) 35 8 0))) rfl rfl (s_pf rfl rfl rfl rfl ⟨by decide, by decide⟩) ?_
  refine go_toq PM9 (k := 2) (pc' := 22) (L' := [some (.inr (.inr (some 35))), some (.inr (.inr (some 1001))), none, none]) (st' := [.inl 0, .inr (.inr (some 35))]) (w' := (SH, (u2 (u2 (u2 (u2 dt 35 2 0) 35 3 (-1)) 35 7 0) 35 8 0))) rfl ?_
  have hI34 : InvC (u2 (u2 (u2 (u2 (u2 dt 35 2 0) 35 3 (-1)) 35 7 0) 35 8 0) 35 12 0) := InvC_u2 hI26 (lo := 0) (hi := 500) rfl rfl rfl (by decide) (by decide)
  have hF35 : Fr [35, 37, 38, 39] dt (u2 (u2 (u2 (u2 (u2 dt 35 2 0) 35 3 (-1)) 35 7 0) 35 8 0) 35 12 0) := Fr_u2 hF27 (by decide)
  have w36 : (u2 (u2 (u2 (u2 (u2 dt 35 2 0) 35 3 (-1)) 35 7 0) 35 8 0) 35 12 0) 35 1 = (u2 (u2 (u2 (u2 dt 35 2 0) 35 3 (-1)) 35 7 0) 35 8 0) 35 1 := rfl
  have w37 : (u2 (u2 (u2 (u2 (u2 dt 35 2 0) 35 3 (-1)) 35 7 0) 35 8 0) 35 12 0) 35 2 = (u2 (u2 (u2 (u2 dt 35 2 0) 35 3 (-1)) 35 7 0) 35 8 0) 35 2 := rfl
  have w38 : (u2 (u2 (u2 (u2 (u2 dt 35 2 0) 35 3 (-1)) 35 7 0) 35 8 0) 35 12 0) 35 3 = (u2 (u2 (u2 (u2 dt 35 2 0) 35 3 (-1)) 35 7 0) 35 8 0) 35 3 := rfl
  have w39 : (u2 (u2 (u2 (u2 (u2 dt 35 2 0) 35 3 (-1)) 35 7 0) 35 8 0) 35 12 0) 35 7 = (u2 (u2 (u2 (u2 dt 35 2 0) 35 3 (-1)) 35 7 0) 35 8 0) 35 7 := rfl
  have w40 : (u2 (u2 (u2 (u2 (u2 dt 35 2 0) 35 3 (-1)) 35 7 0) 35 8 0) 35 12 0) 35 8 = (u2 (u2 (u2 (u2 dt 35 2 0) 35 3 (-1)) 35 7 0) 35 8 0) 35 8 := rfl
  have w41 : (u2 (u2 (u2 (u2 (u2 dt 35 2 0) 35 3 (-1)) 35 7 0) 35 8 0) 35 12 0) 35 12 = 0 := rfl
  refine go_smpq PM9 (L' := [some (.inr (.inr (some 35))), some (.inr (.inr (some 1001))), none, none]) (st' := []) (w' := (SH, (u2 (u2 (u2 (u2 (u2 dt 35 2 0) 35 3 (-1)) 35 7 0) 35 8 0) 35 12 0))) rfl rfl (s_pf rfl rfl rfl rfl ⟨by decide, by decide⟩) ?_
  refine go_toq PM9 (k := 2) (pc' := 27) (L' := [some (.inr (.inr (some 35))), some (.inr (.inr (some 1001))), some (.inl 0), none]) (st' := []) (w' := (SH, (u2 (u2 (u2 (u2 (u2 dt 35 2 0) 35 3 (-1)) 35 7 0) 35 8 0) 35 12 0))) rfl ?_
  have loop70 : ∀ (k_ : Nat) (l27_2 : Int) (dt58 : Nat → Nat → Int) (hI59 : InvC dt58) (hF60 : Fr [35, 37, 38, 39] dt dt58) (i61 : 0 ≤ l27_2 ∧ l27_2 ≤ 500) (i62 : l27_2 ≤ dt 35 1) (i63 : TKI 1 (mB (fun j => am_and (dt 36 j) 255) (dt 35 1)) (dt 35 1).toNat (dt58 37) (dt58 38) (dt58 39) (dt58 35 7) (l27_2).toNat) (i64 : 0 ≤ dt58 35 7 ∧ dt58 35 7 ≤ l27_2) (i65 : dt58 35 1 = dt 35 1) (i66 : dt58 35 2 = 0) (i67 : dt58 35 3 = -1) (i68 : dt58 35 8 = 0) (i69 : dt58 35 12 = 0), (510 - l27_2).toNat < k_ → GO (am_XX L xs sio) (d + 7) 9 27 [some (.inr (.inr (some 35))), some (.inr (.inr (some 1001))), some (.inl l27_2), none] [] (SH, dt58) (fun r w2 => ∃ dt2 : Nat → Nat → Int, w2 = (SH, dt2) ∧ InvC dt2 ∧ Fr [35, 37, 38, 39] dt dt2 ∧ ((r = none ∧ (dt2 35 1 = 0) ∧ (dt2 35 2 = 0) ∧ (dt2 35 3 = -1) ∧ (dt2 35 8 = 0) ∧ (dt2 35 12 = 0) ∧ (1 ≤ dt2 35 7) ∧ (TOK 1 (mB (fun j => am_and (dt 36 j) 255) (dt 35 1)) (dt 35 1).toNat dt2 (dt2 35 7 - 1).toNat)))) := by
    intro k_
    induction k_ with
    | zero => intro l27_2 dt58 hI59 hF60 i61 i62 i63 i64 i65 i66 i67 i68 i69 hm; exact absurd hm (Nat.not_lt_zero _)
    | succ k_ ih_loop70 =>
      intro l27_2 dt58 hI59 hF60 i61 i62 i63 i64 i65 i66 i67 i68 i69 hm
      have qT := i63
      have r71 : 0 ≤ dt58 35 1 ∧ dt58 35 1 ≤ 500 := InvC_get hI59 35 1 rfl rfl
      refine go_ifq PM9 (k := 3) (p1 := 81) (p2 := 35) (L' := [some (.inr (.inr (some 35))), some (.inr (.inr (some 1001))), some (.inl l27_2), none]) (st' := []) (w' := (SH, dt58)) rfl (c_ge (a := l27_2) (b := dt58 35 1) (by first | exact bnd i61 (by decide) (by decide) | exact ⟨by fail, by fail⟩) (by first | exact bnd r71 (by decide) (by decide) | exact ⟨by fail, by fail⟩)) (fun c72 => ?_) (fun c72 => ?_)
      · skip
        refine go_toq PM9 (k := 5) (pc' := 88) (L' := [some (.inr (.inr (some 35))), some (.inr (.inr (some 1001))), some (.inl l27_2), none]) (st' := [.inl (dt58 35 1), .inl 0, .inl 0, .inr (.inr (some 35))]) (w' := (SH, dt58)) rfl ?_
        refine go_callq PM9 PM15 (Q' := _) rfl rfl rfl rfl (sp_X1_addToken_f L xs sio (d + 6) dt58 hI59  0 ⟨by decide, by decide⟩ 0 (dt58 35 1) (by first | exact bnd r71 (by decide) (by decide) | exact ⟨by fail, by fail⟩) (by first | exact True.intro | with_reducible assumption | rfl | omega | trivial | (rw [show dt58 36 = dt 36 from funext (hF60 36 (by decide)), show dt58 35 1 = dt 35 1 by first | with_reducible assumption | fail]; exact hI))) ?_
        rintro _ _ ⟨dt74, rfl, hI75, hF76, h73⟩
        refine ⟨rfl, ?_⟩
        have hF77 : Fr [35, 37, 38, 39] dt dt74 := Fr_tr hF60 hF76 (by decide)
        rcases h73 with ⟨rfl, h73⟩
        obtain ⟨h73_0, h73_1, h73_2, h73_3, h73_4, h73_5, h73_6, h73_7, h73_8, h73_9, h73_10, h73_11⟩ := h73
        refine go_toq PM9 (k := 2) (pc' := 93) (L' := [some (.inr (.inr (some 35))), some (.inr (.inr (some 1001))), some (.inl l27_2), none]) (st' := [.inl 0, .inr (.inr (some 35))]) (w' := (SH, dt74)) rfl ?_
        have hI78 : InvC (u2 dt74 35 1 0) := InvC_u2 hI75 (lo := 0) (hi := 500) rfl rfl rfl (by decide) (by decide)
        have hF79 : Fr [35, 37, 38, 39] dt (u2 dt74 35 1 0) := Fr_u2 hF77 (by decide)
        have w80 : (u2 dt74 35 1 0) 35 1 = 0 := rfl
        have w81 : (u2 dt74 35 1 0) 35 2 = dt74 35 2 := rfl
        have w82 : (u2 dt74 35 1 0) 35 3 = dt74 35 3 := rfl
        have w83 : (u2 dt74 35 1 0) 35 7 = dt74 35 7 := rfl
        have w84 : (u2 dt74 35 1 0) 35 8 = dt74 35 8 := rfl
        have w85 : (u2 dt74 35 1 0) 35 12 = dt74 35 12 := rfl
        refine go_smpq PM9 (L' := [some (.inr (.inr (some 35))), some (.inr (.inr (some 1001))), some (.inl l27_2), none]) (st' := []) (w' := (SH, (u2 dt74 35 1 0))) rfl rfl (s_pf rfl rfl rfl rfl ⟨by decide, by decide⟩) ?_
        refine go_retq PM9 (k := 0) (r := none) (w1 := (SH, (u2 dt74 35 1 0))) rfl ?_
        exact ⟨(u2 dt74 35 1 0), rfl, hI78, hF79, ⟨rfl, ⟨by first | exact True.intro | with_reducible assumption | rfl | fail | trivial, by first | exact True.intro | with_reducible assumption | rfl | omega | trivial, by first | exact True.intro | with_reducible assumption | rfl | omega | trivial, by first | exact True.intro | with_reducible assumption | rfl | omega | trivial, by first | exact True.intro | with_reducible assumption | rfl | omega | trivial, by first | exact True.intro | with_reducible assumption | rfl | omega | trivial, by exact TOK_e qT (by omega) (by omega) (by omega) h73_1 h73_2 h73_3 h73_4 ((h73_6).trans (by omega)) (by omega) (by omega)⟩⟩⟩
      · skip
        refine go_toq PM9 (k := 2) (pc' := 37) (L' := [some (.inr (.inr (some 35))), some (.inr (.inr (some 1001))), some (.inl l27_2), none]) (st' := [.inl l27_2, .inr (.inr (some 35))]) (w' := (SH, dt58)) rfl ?_
        refine go_callq PM9 PM14 (Q' := _) rfl rfl rfl rfl (sp_X1_runEnd_f L xs sio (d + 5) dt58 hI59  l27_2 (by first | exact bnd i61 (by decide) (by decide) | exact bndd i61 c72 (by decide) (by decide) | exact ⟨by omega, by omega⟩) (by first | exact True.intro | with_reducible assumption | rfl | omega | trivial | (rw [show dt58 36 = dt 36 from funext (hF60 36 (by decide)), show dt58 35 1 = dt 35 1 by first | with_reducible assumption | fail]; exact hI))) ?_
        rintro _ _ ⟨rfl, h86⟩
        refine ⟨rfl, ?_⟩
        rcases h86 with ⟨v_h86, rfl, h86r, h86⟩
        obtain ⟨h86_0, h86_1, h86_2⟩ := h86
        rw [show dt58 36 = dt 36 from funext (hF60 36 (by decide)), show dt58 35 1 = dt 35 1 by first | with_reducible assumption | fail] at h86_0
        refine go_toq PM9 (k := 3) (pc' := 43) (L' := [some (.inr (.inr (some 35))), some (.inr (.inr (some 1001))), some (.inl l27_2), some (.inl v_h86)]) (st' := [.inl l27_2, .inr (.inr (some 35))]) (w' := (SH, dt58)) rfl ?_
        refine go_callq PM9 PM10 (Q' := _) rfl rfl rfl rfl (sp_X1_byteAt_f L xs sio (d + 6) dt58 hI59  l27_2 (by first | exact bnd i61 (by decide) (by decide) | exact bndd i61 c72 (by decide) (by decide) | exact ⟨by fail, by fail⟩) ) ?_
        rintro _ _ ⟨rfl, h87⟩
        refine ⟨rfl, ?_⟩
        rcases h87 with ⟨v_h87, rfl, h87r, h87⟩
        rw [show dt58 36 = dt 36 from funext (hF60 36 (by decide)), show dt58 35 1 = dt 35 1 by first | with_reducible assumption | fail] at h87
        refine go_callq PM9 PM11 (Q' := _) rfl rfl rfl rfl (sp_X1_isBlank_f L xs sio (d + 6) dt58 hI59  v_h87 (by first | exact bnd h87r (by decide) (by decide) | exact ⟨by fail, by fail⟩) ) ?_
        rintro _ _ ⟨rfl, h88⟩
        refine ⟨rfl, ?_⟩
        rcases h88 with ⟨v_h88, rfl, h88r, h88⟩
        refine go_ifq PM9 (k := 0) (p1 := 70) (p2 := 52) (L' := [some (.inr (.inr (some 35))), some (.inr (.inr (some 1001))), some (.inl l27_2), some (.inl v_h86)]) (st' := []) (w' := (SH, dt58)) rfl (z_ne (a := v_h88) (by first | exact bnd h88r (by decide) (by decide) | exact ⟨by fail, by fail⟩)) (fun c89 => ?_) (fun c89 => ?_)
        · skip
          replace c89 := hid c89
          refine go_toq PM9 (k := 4) (pc' := 74) (L' := [some (.inr (.inr (some 35))), some (.inr (.inr (some 1001))), some (.inl l27_2), some (.inl v_h86)]) (st' := [.inl (l27_2 + 1), .inl v_h86]) (w' := (SH, dt58)) rfl ?_
          refine go_callq PM9 PM265 (Q' := _) rfl rfl rfl rfl (sp_J9_max_7cf53 L xs sio (d + 6) dt58 hI59  v_h86 (by first | exact bnd h86r (by decide) (by decide) | exact ⟨by fail, by fail⟩) (l27_2 + 1) (by first | exact bndp i61 (by decide) (by decide) | exact ⟨by fail, by fail⟩) ) ?_
          rintro _ _ ⟨rfl, h90⟩
          refine ⟨rfl, ?_⟩
          rcases h90 with ⟨v_h90, rfl, h90r, h90⟩
          refine go_toq PM9 (k := 2) (pc' := 27) (L' := [some (.inr (.inr (some 35))), some (.inr (.inr (some 1001))), some (.inl v_h90), some (.inl v_h86)]) (st' := []) (w' := (SH, dt58)) rfl ?_
          exact GO.le (ih_loop70 v_h90 dt58 hI59 hF60 (by first | with_reducible assumption | exact unhid (by with_reducible assumption) | omega | exact TKI_0 | (have z := TE_1 (n := dt 35 1) (p := l27_2) (by fail) (pLf h87 (by fail)) (pDf h87 (by fail)); exact TKI_x (TKI_b qT (by fail) (by fail) (pBt h87 (by fail))) rfl (by fail)) | exact TKI_x (TKI_t qT (by fail) (by fail) (by fail) (pBf h87 (by fail)) h86_0 hI_1 hI_2 hI_3 (by fail) (VL_e h86_0 hI hI_5 (by fail)) hI_6) (by fail) (by fail)) (by first | with_reducible assumption | exact unhid (by with_reducible assumption) | omega | exact TKI_0 | (have z := TE_1 (n := dt 35 1) (p := l27_2) (by fail) (pLf h87 (by fail)) (pDf h87 (by fail)); exact TKI_x (TKI_b qT (by fail) (by fail) (pBt h87 (by fail))) rfl (by fail)) | exact TKI_x (TKI_t qT (by fail) (by fail) (by fail) (pBf h87 (by fail)) h86_0 hI_1 hI_2 hI_3 (by fail) (VL_e h86_0 hI hI_5 (by fail)) hI_6) (by fail) (by fail)) (by first | with_reducible assumption | exact unhid (by with_reducible assumption) | fail | exact TKI_0 | (have z := TE_1 (n := dt 35 1) (p := l27_2) (by omega) (pLf h87 (by (have z0_ := unhid c89; omega))) (pDf h87 (by (have z0_ := unhid c89; omega))); exact TKI_x (TKI_b qT (by omega) (by omega) (pBt h87 (by (have z0_ := unhid c89; omega)))) rfl (by omega)) | exact TKI_x (TKI_t qT (by fail) (by fail) (by fail) (pBf h87 (by fail)) h86_0 hI_1 hI_2 hI_3 (by fail) (VL_e h86_0 hI hI_5 (by fail)) hI_6) (by fail) (by fail)) (by first | with_reducible assumption | exact unhid (by with_reducible assumption) | omega | exact TKI_0 | (have z := TE_1 (n := dt 35 1) (p := l27_2) (by fail) (pLf h87 (by fail)) (pDf h87 (by fail)); exact TKI_x (TKI_b qT (by fail) (by fail) (pBt h87 (by fail))) rfl (by fail)) | exact TKI_x (TKI_t qT (by fail) (by fail) (by fail) (pBf h87 (by fail)) h86_0 hI_1 hI_2 hI_3 (by fail) (VL_e h86_0 hI hI_5 (by fail)) hI_6) (by fail) (by fail)) (by first | with_reducible assumption | exact unhid (by with_reducible assumption) | fail | exact TKI_0 | (have z := TE_1 (n := dt 35 1) (p := l27_2) (by fail) (pLf h87 (by fail)) (pDf h87 (by fail)); exact TKI_x (TKI_b qT (by fail) (by fail) (pBt h87 (by fail))) rfl (by fail)) | exact TKI_x (TKI_t qT (by fail) (by fail) (by fail) (pBf h87 (by fail)) h86_0 hI_1 hI_2 hI_3 (by fail) (VL_e h86_0 hI hI_5 (by fail)) hI_6) (by fail) (by fail)) (by first | with_reducible assumption | exact unhid (by with_reducible assumption) | fail | exact TKI_0 | (have z := TE_1 (n := dt 35 1) (p := l27_2) (by fail) (pLf h87 (by fail)) (pDf h87 (by fail)); exact TKI_x (TKI_b qT (by fail) (by fail) (pBt h87 (by fail))) rfl (by fail)) | exact TKI_x (TKI_t qT (by fail) (by fail) (by fail) (pBf h87 (by fail)) h86_0 hI_1 hI_2 hI_3 (by fail) (VL_e h86_0 hI hI_5 (by fail)) hI_6) (by fail) (by fail)) (by first | with_reducible assumption | exact unhid (by with_reducible assumption) | fail | exact TKI_0 | (have z := TE_1 (n := dt 35 1) (p := l27_2) (by fail) (pLf h87 (by fail)) (pDf h87 (by fail)); exact TKI_x (TKI_b qT (by fail) (by fail) (pBt h87 (by fail))) rfl (by fail)) | exact TKI_x (TKI_t qT (by fail) (by fail) (by fail) (pBf h87 (by fail)) h86_0 hI_1 hI_2 hI_3 (by fail) (VL_e h86_0 hI hI_5 (by fail)) hI_6) (by fail) (by fail)) (by first | with_reducible assumption | exact unhid (by with_reducible assumption) | fail | exact TKI_0 | (have z := TE_1 (n := dt 35 1) (p := l27_2) (by fail) (pLf h87 (by fail)) (pDf h87 (by fail)); exact TKI_x (TKI_b qT (by fail) (by fail) (pBt h87 (by fail))) rfl (by fail)) | exact TKI_x (TKI_t qT (by fail) (by fail) (by fail) (pBf h87 (by fail)) h86_0 hI_1 hI_2 hI_3 (by fail) (VL_e h86_0 hI hI_5 (by fail)) hI_6) (by fail) (by fail)) (by first | with_reducible assumption | exact unhid (by with_reducible assumption) | fail | exact TKI_0 | (have z := TE_1 (n := dt 35 1) (p := l27_2) (by fail) (pLf h87 (by fail)) (pDf h87 (by fail)); exact TKI_x (TKI_b qT (by fail) (by fail) (pBt h87 (by fail))) rfl (by fail)) | exact TKI_x (TKI_t qT (by fail) (by fail) (by fail) (pBf h87 (by fail)) h86_0 hI_1 hI_2 hI_3 (by fail) (VL_e h86_0 hI hI_5 (by fail)) hI_6) (by fail) (by fail)) (by omega)) ⟨.inl rfl, .inl rfl, .inl rfl, .inr ⟨rfl, trivial⟩, trivial⟩
        · skip
          refine go_toq PM9 (k := 5) (pc' := 57) (L' := [some (.inr (.inr (some 35))), some (.inr (.inr (some 1001))), some (.inl l27_2), some (.inl v_h86)]) (st' := [.inl v_h86, .inl l27_2, .inr (.inr (some 1001)), .inr (.inr (some 35)), .inr (.inr (some 35))]) (w' := (SH, dt58)) rfl ?_
          refine go_callq PM9 PM16 (Q' := _) rfl rfl rfl rfl (sp_X1_kindOf_1f L xs sio (d + 0) dt58 hI59  l27_2 (by first | exact bnd i61 (by decide) (by decide) | exact bndd i61 c72 (by decide) (by decide) | exact ⟨by omega, by omega⟩) v_h86 (by first | exact bnd h86r (by decide) (by decide) | exact ⟨by fail, by fail⟩) (by first | exact True.intro | with_reducible assumption | rfl | omega | trivial | (rw [show dt58 36 = dt 36 from funext (hF60 36 (by decide)), show dt58 35 1 = dt 35 1 by first | with_reducible assumption | fail]; exact h86_0)) (by first | exact True.intro | with_reducible assumption | rfl | fail | trivial | (rw [show dt58 36 = dt 36 from funext (hF60 36 (by decide)), show dt58 35 1 = dt 35 1 by first | with_reducible assumption | fail]; exact h86_0)) (by first | exact True.intro | with_reducible assumption | rfl | omega | trivial | (rw [show dt58 36 = dt 36 from funext (hF60 36 (by decide)), show dt58 35 1 = dt 35 1 by first | with_reducible assumption | fail]; exact h86_0))) ?_
          rintro _ _ ⟨rfl, h91⟩
          refine ⟨rfl, ?_⟩
          rcases h91 with ⟨v_h91, rfl, h91r, h91⟩
          rw [show dt58 36 = dt 36 from funext (hF60 36 (by decide)), show dt58 35 1 = dt 35 1 by first | with_reducible assumption | fail] at h91
          refine go_toq PM9 (k := 3) (pc' := 63) (L' := [some (.inr (.inr (some 35))), some (.inr (.inr (some 1001))), some (.inl l27_2), some (.inl v_h86)]) (st' := [.inl v_h86, .inl l27_2, .inr (.inr (some 35)), .inl v_h91, .inr (.inr (some 35))]) (w' := (SH, dt58)) rfl ?_
          refine go_callq PM9 PM17 (Q' := _) rfl rfl rfl rfl (sp_X1_numberOf_f L xs sio (d + 5) dt58 hI59  l27_2 (by first | exact bnd i61 (by decide) (by decide) | exact bndd i61 c72 (by decide) (by decide) | exact ⟨by omega, by omega⟩) v_h86 (by first | exact bnd h86r (by decide) (by decide) | exact ⟨by fail, by fail⟩) (by first | exact True.intro | with_reducible assumption | rfl | omega | trivial | (rw [show dt58 36 = dt 36 from funext (hF60 36 (by decide)), show dt58 35 1 = dt 35 1 by first | with_reducible assumption | fail]; exact h86_0))) ?_
          rintro _ _ ⟨rfl, h92⟩
          refine ⟨rfl, ?_⟩
          rcases h92 with ⟨v_h92, rfl, h92r, h92⟩
          rw [show dt58 36 = dt 36 from funext (hF60 36 (by decide)), show dt58 35 1 = dt 35 1 by first | with_reducible assumption | fail] at h92
          refine go_toq PM9 (k := 1) (pc' := 67) (L' := [some (.inr (.inr (some 35))), some (.inr (.inr (some 1001))), some (.inl l27_2), some (.inl v_h86)]) (st' := [.inl l27_2, .inl v_h92, .inl v_h91, .inr (.inr (some 35))]) (w' := (SH, dt58)) rfl ?_
          refine go_callq PM9 PM15 (Q' := _) rfl rfl rfl rfl (sp_X1_addToken_f L xs sio (d + 6) dt58 hI59  v_h91 (by first | exact bnd h91r (by decide) (by decide) | exact ⟨by fail, by fail⟩) v_h92 l27_2 (by first | exact bnd i61 (by decide) (by decide) | exact bndd i61 c72 (by decide) (by decide) | exact ⟨by fail, by fail⟩) (by first | exact True.intro | with_reducible assumption | rfl | omega | trivial | (rw [show dt58 36 = dt 36 from funext (hF60 36 (by decide)), show dt58 35 1 = dt 35 1 by first | with_reducible assumption | fail]; exact h86_0))) ?_
          rintro _ _ ⟨dt94, rfl, hI95, hF96, h93⟩
          refine ⟨rfl, ?_⟩
          have hF97 : Fr [35, 37, 38, 39] dt dt94 := Fr_tr hF60 hF96 (by decide)
          rcases h93 with ⟨rfl, h93⟩
          obtain ⟨h93_0, h93_1, h93_2, h93_3, h93_4, h93_5, h93_6, h93_7, h93_8, h93_9, h93_10, h93_11⟩ := h93
          refine go_toq PM9 (k := 4) (pc' := 74) (L' := [some (.inr (.inr (some 35))), some (.inr (.inr (some 1001))), some (.inl l27_2), some (.inl v_h86)]) (st' := [.inl (l27_2 + 1), .inl v_h86]) (w' := (SH, dt94)) rfl ?_
          refine go_callq PM9 PM265 (Q' := _) rfl rfl rfl rfl (sp_J9_max_7cf53 L xs sio (d + 6) dt94 hI95  v_h86 (by first | exact bnd h86r (by decide) (by decide) | exact ⟨by fail, by fail⟩) (l27_2 + 1) (by first | exact bndp i61 (by decide) (by decide) | exact ⟨by fail, by fail⟩) ) ?_
          rintro _ _ ⟨rfl, h98⟩
          refine ⟨rfl, ?_⟩
          rcases h98 with ⟨v_h98, rfl, h98r, h98⟩
          refine go_toq PM9 (k := 2) (pc' := 27) (L' := [some (.inr (.inr (some 35))), some (.inr (.inr (some 1001))), some (.inl v_h98), some (.inl v_h86)]) (st' := []) (w' := (SH, dt94)) rfl ?_
          exact GO.le (ih_loop70 v_h98 dt94 hI95 hF97 (by first | with_reducible assumption | omega | exact TKI_0 | (have z := TE_1 (n := dt 35 1) (p := l27_2) (by fail) (pLf h87 (by fail)) (pDf h87 (by fail)); exact TKI_x (TKI_b qT (by fail) (by fail) (pBt h87 (by fail))) rfl (by fail)) | exact TKI_x (TKI_t qT (by fail) (by fail) (by fail) (pBf h87 (by fail)) h86_0 h93_1 h93_2 h93_3 (by fail) (VL_e h86_0 h92 h93_5 (by fail)) h93_6) (by fail) (by fail)) (by first | with_reducible assumption | omega | exact TKI_0 | (have z := TE_1 (n := dt 35 1) (p := l27_2) (by fail) (pLf h87 (by fail)) (pDf h87 (by fail)); exact TKI_x (TKI_b qT (by fail) (by fail) (pBt h87 (by fail))) rfl (by fail)) | exact TKI_x (TKI_t qT (by fail) (by fail) (by fail) (pBf h87 (by fail)) h86_0 h93_1 h93_2 h93_3 (by fail) (VL_e h86_0 h92 h93_5 (by fail)) h93_6) (by fail) (by fail)) (by first | with_reducible assumption | fail | exact TKI_0 | (have z := TE_1 (n := dt 35 1) (p := l27_2) (by omega) (pLf h87 (by fail)) (pDf h87 (by fail)); exact TKI_x (TKI_b qT (by fail) (by fail) (pBt h87 (by fail))) rfl (by fail)) | exact TKI_x (TKI_t qT (by omega) (by omega) (by omega) (pBf h87 (by omega)) h86_0 h93_1 h93_2 h93_3 (by omega) (VL_e h86_0 h92 h93_5 (by omega)) h93_6) (by omega) (by omega)) (by first | with_reducible assumption | omega | exact TKI_0 | (have z := TE_1 (n := dt 35 1) (p := l27_2) (by fail) (pLf h87 (by fail)) (pDf h87 (by fail)); exact TKI_x (TKI_b qT (by fail) (by fail) (pBt h87 (by fail))) rfl (by fail)) | exact TKI_x (TKI_t qT (by fail) (by fail) (by fail) (pBf h87 (by fail)) h86_0 h93_1 h93_2 h93_3 (by fail) (VL_e h86_0 h92 h93_5 (by fail)) h93_6) (by fail) (by fail)) (by first | with_reducible assumption | omega | exact TKI_0 | (have z := TE_1 (n := dt 35 1) (p := l27_2) (by fail) (pLf h87 (by fail)) (pDf h87 (by fail)); exact TKI_x (TKI_b qT (by fail) (by fail) (pBt h87 (by fail))) rfl (by fail)) | exact TKI_x (TKI_t qT (by fail) (by fail) (by fail) (pBf h87 (by fail)) h86_0 h93_1 h93_2 h93_3 (by fail) (VL_e h86_0 h92 h93_5 (by fail)) h93_6) (by fail) (by fail)) (by first | with_reducible assumption | omega | exact TKI_0 | (have z := TE_1 (n := dt 35 1) (p := l27_2) (by fail) (pLf h87 (by fail)) (pDf h87 (by fail)); exact TKI_x (TKI_b qT (by fail) (by fail) (pBt h87 (by fail))) rfl (by fail)) | exact TKI_x (TKI_t qT (by fail) (by fail) (by fail) (pBf h87 (by fail)) h86_0 h93_1 h93_2 h93_3 (by fail) (VL_e h86_0 h92 h93_5 (by fail)) h93_6) (by fail) (by fail)) (by first | with_reducible assumption | omega | exact TKI_0 | (have z := TE_1 (n := dt 35 1) (p := l27_2) (by fail) (pLf h87 (by fail)) (pDf h87 (by fail)); exact TKI_x (TKI_b qT (by fail) (by fail) (pBt h87 (by fail))) rfl (by fail)) | exact TKI_x (TKI_t qT (by fail) (by fail) (by fail) (pBf h87 (by fail)) h86_0 h93_1 h93_2 h93_3 (by fail) (VL_e h86_0 h92 h93_5 (by fail)) h93_6) (by fail) (by fail)) (by first | with_reducible assumption | omega | exact TKI_0 | (have z := TE_1 (n := dt 35 1) (p := l27_2) (by fail) (pLf h87 (by fail)) (pDf h87 (by fail)); exact TKI_x (TKI_b qT (by fail) (by fail) (pBt h87 (by fail))) rfl (by fail)) | exact TKI_x (TKI_t qT (by fail) (by fail) (by fail) (pBf h87 (by fail)) h86_0 h93_1 h93_2 h93_3 (by fail) (VL_e h86_0 h92 h93_5 (by fail)) h93_6) (by fail) (by fail)) (by first | with_reducible assumption | omega | exact TKI_0 | (have z := TE_1 (n := dt 35 1) (p := l27_2) (by fail) (pLf h87 (by fail)) (pDf h87 (by fail)); exact TKI_x (TKI_b qT (by fail) (by fail) (pBt h87 (by fail))) rfl (by fail)) | exact TKI_x (TKI_t qT (by fail) (by fail) (by fail) (pBf h87 (by fail)) h86_0 h93_1 h93_2 h93_3 (by fail) (VL_e h86_0 h92 h93_5 (by fail)) h93_6) (by fail) (by fail)) (by omega)) ⟨.inl rfl, .inl rfl, .inl rfl, .inr ⟨rfl, trivial⟩, trivial⟩
  exact GO.le (loop70 _ 0 (u2 (u2 (u2 (u2 (u2 dt 35 2 0) 35 3 (-1)) 35 7 0) 35 8 0) 35 12 0) hI34 hF35 (by first | with_reducible assumption | omega | exact TKI_0 | (have z := TE_1 (n := dt 35 1) (p := l27_2) (by fail) (pLf hI (by fail)) (pDf hI (by fail)); exact TKI_x (TKI_b qT (by fail) (by fail) (pBt hI (by fail))) rfl (by fail)) | exact TKI_x (TKI_t qT (by fail) (by fail) (by fail) (pBf hI (by fail)) hI hI_1 hI_2 hI_3 (by fail) (VL_e hI hI hI_5 (by fail)) hI_6) (by fail) (by fail)) (by first | with_reducible assumption | omega | exact TKI_0 | (have z := TE_1 (n := dt 35 1) (p := l27_2) (by fail) (pLf hI (by fail)) (pDf hI (by fail)); exact TKI_x (TKI_b qT (by fail) (by fail) (pBt hI (by fail))) rfl (by fail)) | exact TKI_x (TKI_t qT (by fail) (by fail) (by fail) (pBf hI (by fail)) hI hI_1 hI_2 hI_3 (by fail) (VL_e hI hI hI_5 (by fail)) hI_6) (by fail) (by fail)) (by first | with_reducible assumption | fail | exact TKI_0 | (have z := TE_1 (n := dt 35 1) (p := l27_2) (by fail) (pLf hI (by fail)) (pDf hI (by fail)); exact TKI_x (TKI_b qT (by fail) (by fail) (pBt hI (by fail))) rfl (by fail)) | exact TKI_x (TKI_t qT (by fail) (by fail) (by fail) (pBf hI (by fail)) hI hI_1 hI_2 hI_3 (by fail) (VL_e hI hI hI_5 (by fail)) hI_6) (by fail) (by fail)) (by first | with_reducible assumption | omega | exact TKI_0 | (have z := TE_1 (n := dt 35 1) (p := l27_2) (by fail) (pLf hI (by fail)) (pDf hI (by fail)); exact TKI_x (TKI_b qT (by fail) (by fail) (pBt hI (by fail))) rfl (by fail)) | exact TKI_x (TKI_t qT (by fail) (by fail) (by fail) (pBf hI (by fail)) hI hI_1 hI_2 hI_3 (by fail) (VL_e hI hI hI_5 (by fail)) hI_6) (by fail) (by fail)) (by first | with_reducible assumption | omega | exact TKI_0 | (have z := TE_1 (n := dt 35 1) (p := l27_2) (by fail) (pLf hI (by fail)) (pDf hI (by fail)); exact TKI_x (TKI_b qT (by fail) (by fail) (pBt hI (by fail))) rfl (by fail)) | exact TKI_x (TKI_t qT (by fail) (by fail) (by fail) (pBf hI (by fail)) hI hI_1 hI_2 hI_3 (by fail) (VL_e hI hI hI_5 (by fail)) hI_6) (by fail) (by fail)) (by first | with_reducible assumption | omega | exact TKI_0 | (have z := TE_1 (n := dt 35 1) (p := l27_2) (by fail) (pLf hI (by fail)) (pDf hI (by fail)); exact TKI_x (TKI_b qT (by fail) (by fail) (pBt hI (by fail))) rfl (by fail)) | exact TKI_x (TKI_t qT (by fail) (by fail) (by fail) (pBf hI (by fail)) hI hI_1 hI_2 hI_3 (by fail) (VL_e hI hI hI_5 (by fail)) hI_6) (by fail) (by fail)) (by first | with_reducible assumption | omega | exact TKI_0 | (have z := TE_1 (n := dt 35 1) (p := l27_2) (by fail) (pLf hI (by fail)) (pDf hI (by fail)); exact TKI_x (TKI_b qT (by fail) (by fail) (pBt hI (by fail))) rfl (by fail)) | exact TKI_x (TKI_t qT (by fail) (by fail) (by fail) (pBf hI (by fail)) hI hI_1 hI_2 hI_3 (by fail) (VL_e hI hI hI_5 (by fail)) hI_6) (by fail) (by fail)) (by first | with_reducible assumption | omega | exact TKI_0 | (have z := TE_1 (n := dt 35 1) (p := l27_2) (by fail) (pLf hI (by fail)) (pDf hI (by fail)); exact TKI_x (TKI_b qT (by fail) (by fail) (pBt hI (by fail))) rfl (by fail)) | exact TKI_x (TKI_t qT (by fail) (by fail) (by fail) (pBf hI (by fail)) hI hI_1 hI_2 hI_3 (by fail) (VL_e hI hI hI_5 (by fail)) hI_6) (by fail) (by fail)) (by first | with_reducible assumption | fail | exact TKI_0 | (have z := TE_1 (n := dt 35 1) (p := l27_2) (by fail) (pLf hI (by fail)) (pDf hI (by fail)); exact TKI_x (TKI_b qT (by fail) (by fail) (pBt hI (by fail))) rfl (by fail)) | exact TKI_x (TKI_t qT (by fail) (by fail) (by fail) (pBf hI (by fail)) hI hI_1 hI_2 hI_3 (by fail) (VL_e hI hI hI_5 (by fail)) hI_6) (by fail) (by fail)) (Nat.lt_succ_self _)) ⟨.inl rfl, .inl rfl, .inl rfl, .inl rfl, trivial⟩
