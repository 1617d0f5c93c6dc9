set_option maxRecDepth 20000 in
theorem sp_X6_isLetter (L : Nat) (xs : Nat → Int32) (sio : Option Nat) (d : Nat) (dt : Nat → Nat → Int) (hI : InvC dt)  (p1 : Int) (h_p1 : (-2147483648) ≤ p1 ∧ p1 ≤ 2147483647)  : GO (am_XX L xs sio) (d + 1) 154 0 [some (.inl p1)] [] (SH, dt) (fun r w2 => w2 = (SH, dt) ∧ ((∃ v : Int, r = some (.inl v) ∧ (0 ≤ v ∧ v ≤ 1) ∧ (v = 1 ↔ ((97 ≤ p1 ∧ p1 ≤ 122) ∨ (65 ≤ p1 ∧ p1 ≤ 90)))))) := by
  refine go_toq PM154 (k := 3) (pc' := 5) (L' := [some (.inl p1)]) (st' := [.inl 122, .inl 97, .inl p1]) (w' := (SH, dt)) rfl ?_
  refine go_callq PM154 PM146 (Q' := _) rfl rfl rfl rfl (sp_X6_isIn L xs sio (d + 0) dt hI  p1 (by first | exact h_p1 | exact bnd h_p1 (by decide) (by decide) | exact ⟨by fail, by fail⟩) 97 ⟨by decide, by decide⟩ 122 ⟨by decide, by decide⟩ ) ?_
  rintro _ _ ⟨rfl, h1⟩
  refine ⟨rfl, ?_⟩
  rcases h1 with ⟨rfl, h1⟩ | ⟨rfl, h1⟩
  · skip
    refine go_retq PM154 (k := 3) (r := some (.inl 1)) (w1 := (SH, dt)) rfl ?_
    exact ⟨rfl, ⟨_, rfl, ⟨by decide, by decide⟩, by first | exact True.intro | with_reducible assumption | rfl | omega | trivial⟩⟩
  · skip
    refine go_toq PM154 (k := 4) (pc' := 16) (L' := [some (.inl p1)]) (st' := [.inl 90, .inl 65, .inl p1]) (w' := (SH, dt)) rfl ?_
    refine go_callq PM154 PM146 (Q' := _) rfl rfl rfl rfl (sp_X6_isIn L xs sio (d + 0) dt hI  p1 (by first | exact h_p1 | exact bnd h_p1 (by decide) (by decide) | exact ⟨by fail, by fail⟩) 65 ⟨by decide, by decide⟩ 90 ⟨by decide, by decide⟩ ) ?_
    rintro _ _ ⟨rfl, h2⟩
    refine ⟨rfl, ?_⟩
    rcases h2 with ⟨rfl, h2⟩ | ⟨rfl, h2⟩
    · skip
      refine go_retq PM154 (k := 3) (r := some (.inl 1)) (w1 := (SH, dt)) rfl ?_
      exact ⟨rfl, ⟨_, rfl, ⟨by decide, by decide⟩, by first | exact True.intro | with_reducible assumption | rfl | omega | trivial⟩⟩
    · skip
      refine go_retq PM154 (k := 2) (r := some (.inl 0)) (w1 := (SH, dt)) rfl ?_
      exact ⟨rfl, ⟨_, rfl, ⟨by decide, by decide⟩, by first | exact True.intro | with_reducible assumption | rfl | omega | trivial⟩⟩
set_option maxRecDepth 20000 in
theorem sp_X6_isDigit (L : Nat) (xs : Nat → Int32) (sio : Option Nat) (d : Nat) (dt : Nat → Nat → Int) (hI : InvC dt)  (p1 : Int) (h_p1 : (-2147483648) ≤ p1 ∧ p1 ≤ 2147483647)  : GO (am_XX L xs sio) (d + 1) 155 0 [some (.inl p1)] [] (SH, dt) (fun r w2 => w2 = (SH, dt) ∧ ((∃ v : Int, r = some (.inl v) ∧ (0 ≤ v ∧ v ≤ 1) ∧ (v = 1 ↔ (48 ≤ p1 ∧ p1 ≤ 57))))) := by
  refine go_toq PM155 (k := 3) (pc' := 5) (L' := [some (.inl p1)]) (st' := [.inl 57, .inl 48, .inl p1]) (w' := (SH, dt)) rfl ?_
  refine go_callq PM155 PM146 (Q' := _) rfl rfl rfl rfl (sp_X6_isIn L xs sio (d + 0) dt hI  p1 (by first | exact h_p1 | exact bnd h_p1 (by decide) (by decide) | exact ⟨by fail, by fail⟩) 48 ⟨by decide, by decide⟩ 57 ⟨by decide, by decide⟩ ) ?_
  rintro _ _ ⟨rfl, h1⟩
  refine ⟨rfl, ?_⟩
  rcases h1 with ⟨rfl, h1⟩ | ⟨rfl, h1⟩
  · skip
    refine go_retq PM155 (k := 0) (r := some (.inl 1)) (w1 := (SH, dt)) rfl ?_
    exact ⟨rfl, ⟨_, rfl, ⟨by decide, by decide⟩, by first | exact True.intro | with_reducible assumption | rfl | omega | trivial⟩⟩
  · skip
    refine go_retq PM155 (k := 0) (r := some (.inl 0)) (w1 := (SH, dt)) rfl ?_
    exact ⟨rfl, ⟨_, rfl, ⟨by decide, by decide⟩, by first | exact True.intro | with_reducible assumption | rfl | omega | trivial⟩⟩
set_option maxRecDepth 20000 in
theorem sp_X6_see (L : Nat) (xs : Nat → Int32) (sio : Option Nat) (d : Nat) (dt : Nat → Nat → Int) (hI : InvC dt)  (p1 : Int) (h_p1 : 0 ≤ p1 ∧ p1 ≤ 501)  : GO (am_XX L xs sio) (d) 153 0 [some (.inr (.inr (some 79))), some (.inl p1)] [] (SH, dt) (fun r w2 => w2 = (SH, dt) ∧ ((∃ v : Int, r = some (.inl v) ∧ ((-1) ≤ v ∧ v ≤ 255) ∧ (v = -1 ∨ p1 < dt 79 12) ∧ (v = SV (dt 85) (dt 79 12) p1)))) := by
  have r1 : 0 ≤ dt 79 12 ∧ dt 79 12 ≤ 500 := InvC_get hI 79 12 rfl rfl
  refine go_ifq PM153 (k := 3) (p1 := 17) (p2 := 8) (L' := [some (.inr (.inr (some 79))), some (.inl p1)]) (st' := []) (w' := (SH, dt)) rfl (c_ge (a := p1) (b := dt 79 12) (by first | exact bnd h_p1 (by decide) (by decide) | exact ⟨by fail, by fail⟩) (by first | exact bnd r1 (by decide) (by decide) | exact ⟨by fail, by fail⟩)) (fun c2 => ?_) (fun c2 => ?_)
  · skip
    refine go_retq PM153 (k := 1) (r := some (.inl (-1))) (w1 := (SH, dt)) rfl ?_
    exact ⟨rfl, ⟨_, rfl, ⟨by decide, by decide⟩, ⟨by first | exact True.intro | with_reducible assumption | rfl | omega | trivial, by unfold SV; first | (rw [if_pos (by fail)]) | (rw [if_neg (by omega)])⟩⟩⟩
  · skip
    refine go_toq PM153 (k := 3) (pc' := 13) (L' := [some (.inr (.inr (some 79))), some (.inl p1)]) (st' := [.inl p1, .inr (.inr (some 85))]) (w' := (SH, dt)) rfl ?_
    have r3 : 0 ≤ dt 85 (p1).toNat ∧ dt 85 (p1).toNat ≤ 255 := InvC_get hI 85 (p1).toNat rfl rfl
    refine go_smpq PM153 (L' := [some (.inr (.inr (some 79))), some (.inl p1)]) (st' := [.inl (dt 85 (p1).toNat)]) (w' := (SH, dt)) rfl rfl (s_iald (n := 500) (f := dt 85) rfl (by first | exact bndc h_p1 c2 (by decide) (by decide) | exact bndx h_p1 (by decide) (by decide) | exact ⟨by omega, by omega⟩)) ?_
    refine go_retq PM153 (k := 1) (r := some (.inl (dt 85 (p1).toNat))) (w1 := (SH, dt)) rfl ?_
    exact ⟨rfl, ⟨_, rfl, (by first | exact bnd r3 (by decide) (by decide) | exact ⟨by fail, by fail⟩), ⟨by first | exact True.intro | with_reducible assumption | rfl | omega | trivial, by unfold SV; first | (rw [if_pos (by omega)]) | (rw [if_neg (by fail)])⟩⟩⟩
set_option maxRecDepth 20000 in
theorem sp_X6_actWord (L : Nat) (xs : Nat → Int32) (sio : Option Nat) (d : Nat) (dt : Nat → Nat → Int) (hI : InvC dt)   (h_p0 : dt 79 13 ≤ 500) : GO (am_XX L xs sio) (d + 5) 157 0 [some (.inr (.inr (some 79)))] [] (SH, dt) (fun r w2 => w2 = (SH, dt) ∧ ((∃ v : Int, r = some (.inl v) ∧ (1 ≤ v ∧ v ≤ 28) ∧ True))) := by
  refine go_toq PM157 (k := 2) (pc' := 3) (L' := [some (.inr (.inr (some 79)))]) (st' := [.inr (.inr (some 1003)), .inr (.inr (some 79))]) (w' := (SH, dt)) rfl ?_
  refine go_callq PM157 PM156 (Q' := _) rfl rfl rfl rfl (sp_X6_is_1003 L xs sio (d + 0) dt hI   (by first | exact True.intro | with_reducible assumption | rfl | fail | trivial)) ?_
  rintro _ _ ⟨rfl, h1⟩
  refine ⟨rfl, ?_⟩
  rcases h1 with ⟨v_h1, rfl, h1r, h1⟩
  refine go_ifq PM157 (k := 0) (p1 := 12) (p2 := 9) (L' := [some (.inr (.inr (some 79)))]) (st' := []) (w' := (SH, dt)) rfl (z_eq (a := v_h1) (by first | exact bnd h1r (by decide) (by decide) | exact ⟨by fail, by fail⟩)) (fun c2 => ?_) (fun c2 => ?_)
  · skip
    refine go_toq PM157 (k := 2) (pc' := 15) (L' := [some (.inr (.inr (some 79)))]) (st' := [.inr (.inr (some 1004)), .inr (.inr (some 79))]) (w' := (SH, dt)) rfl ?_
    refine go_callq PM157 PM156 (Q' := _) rfl rfl rfl rfl (sp_X6_is_1004 L xs sio (d + 0) dt hI   (by first | exact True.intro | with_reducible assumption | rfl | fail | trivial)) ?_
    rintro _ _ ⟨rfl, h3⟩
    refine ⟨rfl, ?_⟩
    rcases h3 with ⟨v_h3, rfl, h3r, h3⟩
    refine go_ifq PM157 (k := 0) (p1 := 24) (p2 := 21) (L' := [some (.inr (.inr (some 79)))]) (st' := []) (w' := (SH, dt)) rfl (z_eq (a := v_h3) (by first | exact bnd h3r (by decide) (by decide) | exact ⟨by fail, by fail⟩)) (fun c4 => ?_) (fun c4 => ?_)
    · skip
      refine go_toq PM157 (k := 2) (pc' := 27) (L' := [some (.inr (.inr (some 79)))]) (st' := [.inr (.inr (some 1005)), .inr (.inr (some 79))]) (w' := (SH, dt)) rfl ?_
      refine go_callq PM157 PM156 (Q' := _) rfl rfl rfl rfl (sp_X6_is_1005 L xs sio (d + 0) dt hI   (by first | exact True.intro | with_reducible assumption | rfl | fail | trivial)) ?_
      rintro _ _ ⟨rfl, h5⟩
      refine ⟨rfl, ?_⟩
      rcases h5 with ⟨v_h5, rfl, h5r, h5⟩
      refine go_ifq PM157 (k := 0) (p1 := 36) (p2 := 33) (L' := [some (.inr (.inr (some 79)))]) (st' := []) (w' := (SH, dt)) rfl (z_eq (a := v_h5) (by first | exact bnd h5r (by decide) (by decide) | exact ⟨by fail, by fail⟩)) (fun c6 => ?_) (fun c6 => ?_)
      · skip
        refine go_toq PM157 (k := 2) (pc' := 39) (L' := [some (.inr (.inr (some 79)))]) (st' := [.inr (.inr (some 1006)), .inr (.inr (some 79))]) (w' := (SH, dt)) rfl ?_
        refine go_callq PM157 PM156 (Q' := _) rfl rfl rfl rfl (sp_X6_is_1006 L xs sio (d + 0) dt hI   (by first | exact True.intro | with_reducible assumption | rfl | fail | trivial)) ?_
        rintro _ _ ⟨rfl, h7⟩
        refine ⟨rfl, ?_⟩
        rcases h7 with ⟨v_h7, rfl, h7r, h7⟩
        refine go_ifq PM157 (k := 0) (p1 := 48) (p2 := 45) (L' := [some (.inr (.inr (some 79)))]) (st' := []) (w' := (SH, dt)) rfl (z_eq (a := v_h7) (by first | exact bnd h7r (by decide) (by decide) | exact ⟨by fail, by fail⟩)) (fun c8 => ?_) (fun c8 => ?_)
        · skip
          refine go_toq PM157 (k := 2) (pc' := 51) (L' := [some (.inr (.inr (some 79)))]) (st' := [.inr (.inr (some 1007)), .inr (.inr (some 79))]) (w' := (SH, dt)) rfl ?_
          refine go_callq PM157 PM156 (Q' := _) rfl rfl rfl rfl (sp_X6_is_1007 L xs sio (d + 0) dt hI   (by first | exact True.intro | with_reducible assumption | rfl | fail | trivial)) ?_
          rintro _ _ ⟨rfl, h9⟩
          refine ⟨rfl, ?_⟩
          rcases h9 with ⟨v_h9, rfl, h9r, h9⟩
          refine go_ifq PM157 (k := 0) (p1 := 60) (p2 := 57) (L' := [some (.inr (.inr (some 79)))]) (st' := []) (w' := (SH, dt)) rfl (z_eq (a := v_h9) (by first | exact bnd h9r (by decide) (by decide) | exact ⟨by fail, by fail⟩)) (fun c10 => ?_) (fun c10 => ?_)
          · skip
            refine go_toq PM157 (k := 2) (pc' := 63) (L' := [some (.inr (.inr (some 79)))]) (st' := [.inr (.inr (some 1008)), .inr (.inr (some 79))]) (w' := (SH, dt)) rfl ?_
            refine go_callq PM157 PM156 (Q' := _) rfl rfl rfl rfl (sp_X6_is_1008 L xs sio (d + 0) dt hI   (by first | exact True.intro | with_reducible assumption | rfl | fail | trivial)) ?_
            rintro _ _ ⟨rfl, h11⟩
            refine ⟨rfl, ?_⟩
            rcases h11 with ⟨v_h11, rfl, h11r, h11⟩
            refine go_ifq PM157 (k := 0) (p1 := 72) (p2 := 69) (L' := [some (.inr (.inr (some 79)))]) (st' := []) (w' := (SH, dt)) rfl (z_eq (a := v_h11) (by first | exact bnd h11r (by decide) (by decide) | exact ⟨by fail, by fail⟩)) (fun c12 => ?_) (fun c12 => ?_)
            · skip
              refine go_toq PM157 (k := 2) (pc' := 75) (L' := [some (.inr (.inr (some 79)))]) (st' := [.inr (.inr (some 1009)), .inr (.inr (some 79))]) (w' := (SH, dt)) rfl ?_
              refine go_callq PM157 PM156 (Q' := _) rfl rfl rfl rfl (sp_X6_is_1009 L xs sio (d + 0) dt hI   (by first | exact True.intro | with_reducible assumption | rfl | fail | trivial)) ?_
              rintro _ _ ⟨rfl, h13⟩
              refine ⟨rfl, ?_⟩
              rcases h13 with ⟨v_h13, rfl, h13r, h13⟩
              refine go_ifq PM157 (k := 0) (p1 := 84) (p2 := 81) (L' := [some (.inr (.inr (some 79)))]) (st' := []) (w' := (SH, dt)) rfl (z_eq (a := v_h13) (by first | exact bnd h13r (by decide) (by decide) | exact ⟨by fail, by fail⟩)) (fun c14 => ?_) (fun c14 => ?_)
              · skip
                refine go_toq PM157 (k := 2) (pc' := 87) (L' := [some (.inr (.inr (some 79)))]) (st' := [.inr (.inr (some 1010)), .inr (.inr (some 79))]) (w' := (SH, dt)) rfl ?_
                refine go_callq PM157 PM156 (Q' := _) rfl rfl rfl rfl (sp_X6_is_1010 L xs sio (d + 0) dt hI   (by first | exact True.intro | with_reducible assumption | rfl | fail | trivial)) ?_
                rintro _ _ ⟨rfl, h15⟩
                refine ⟨rfl, ?_⟩
                rcases h15 with ⟨v_h15, rfl, h15r, h15⟩
                refine go_ifq PM157 (k := 0) (p1 := 96) (p2 := 93) (L' := [some (.inr (.inr (some 79)))]) (st' := []) (w' := (SH, dt)) rfl (z_eq (a := v_h15) (by first | exact bnd h15r (by decide) (by decide) | exact ⟨by fail, by fail⟩)) (fun c16 => ?_) (fun c16 => ?_)
                · skip
                  refine go_toq PM157 (k := 2) (pc' := 99) (L' := [some (.inr (.inr (some 79)))]) (st' := [.inr (.inr (some 1011)), .inr (.inr (some 79))]) (w' := (SH, dt)) rfl ?_
                  refine go_callq PM157 PM156 (Q' := _) rfl rfl rfl rfl (sp_X6_is_1011 L xs sio (d + 0) dt hI   (by first | exact True.intro | with_reducible assumption | rfl | fail | trivial)) ?_
                  rintro _ _ ⟨rfl, h17⟩
                  refine ⟨rfl, ?_⟩
                  rcases h17 with ⟨v_h17, rfl, h17r, h17⟩
                  have j19 : ∀ (j19_s0 : Int) (i20 : 1 ≤ j19_s0 ∧ j19_s0 ≤ 28), GO (am_XX L xs sio) (d + 5) 157 111 [some (.inr (.inr (some 79)))] [.inl j19_s0] (SH, dt) (fun r w2 => w2 = (SH, dt) ∧ ((∃ v : Int, r = some (.inl v) ∧ (1 ≤ v ∧ v ≤ 28) ∧ True))) := by
                    intro j19_s0 i20
                    refine go_retq PM157 (k := 0) (r := some (.inl j19_s0)) (w1 := (SH, dt)) rfl ?_
                    exact ⟨rfl, ⟨_, rfl, (by first | exact bnd i20 (by decide) (by decide) | exact ⟨by fail, by fail⟩), trivial⟩⟩
                  refine go_ifq PM157 (k := 0) (p1 := 110) (p2 := 105) (L' := [some (.inr (.inr (some 79)))]) (st' := []) (w' := (SH, dt)) rfl (z_eq (a := v_h17) (by first | exact bnd h17r (by decide) (by decide) | exact ⟨by fail, by fail⟩)) (fun c21 => ?_) (fun c21 => ?_)
                  · skip
                    refine go_toq PM157 (k := 1) (pc' := 111) (L' := [some (.inr (.inr (some 79)))]) (st' := [.inl 1]) (w' := (SH, dt)) rfl ?_
                    exact GO.le (j19 1 ⟨by decide, by decide⟩) ⟨.inl rfl, trivial⟩
                  · skip
                    replace c21 := hid c21
                    refine go_toq PM157 (k := 2) (pc' := 111) (L' := [some (.inr (.inr (some 79)))]) (st' := [.inl 28]) (w' := (SH, dt)) rfl ?_
                    exact GO.le (j19 28 ⟨by decide, by decide⟩) ⟨.inl rfl, trivial⟩
                · skip
                  replace c16 := hid c16
                  refine go_retq PM157 (k := 1) (r := some (.inl 27)) (w1 := (SH, dt)) rfl ?_
                  exact ⟨rfl, ⟨_, rfl, ⟨by decide, by decide⟩, trivial⟩⟩
              · skip
                replace c14 := hid c14
                refine go_retq PM157 (k := 1) (r := some (.inl 26)) (w1 := (SH, dt)) rfl ?_
                exact ⟨rfl, ⟨_, rfl, ⟨by decide, by decide⟩, trivial⟩⟩
            · skip
              replace c12 := hid c12
              refine go_retq PM157 (k := 1) (r := some (.inl 25)) (w1 := (SH, dt)) rfl ?_
              exact ⟨rfl, ⟨_, rfl, ⟨by decide, by decide⟩, trivial⟩⟩
          · skip
            replace c10 := hid c10
            refine go_retq PM157 (k := 1) (r := some (.inl 24)) (w1 := (SH, dt)) rfl ?_
            exact ⟨rfl, ⟨_, rfl, ⟨by decide, by decide⟩, trivial⟩⟩
        · skip
          replace c8 := hid c8
          refine go_retq PM157 (k := 1) (r := some (.inl 23)) (w1 := (SH, dt)) rfl ?_
          exact ⟨rfl, ⟨_, rfl, ⟨by decide, by decide⟩, trivial⟩⟩
      · skip
        replace c6 := hid c6
        refine go_retq PM157 (k := 1) (r := some (.inl 22)) (w1 := (SH, dt)) rfl ?_
        exact ⟨rfl, ⟨_, rfl, ⟨by decide, by decide⟩, trivial⟩⟩
    · skip
      replace c4 := hid c4
      refine go_retq PM157 (k := 1) (r := some (.inl 21)) (w1 := (SH, dt)) rfl ?_
      exact ⟨rfl, ⟨_, rfl, ⟨by decide, by decide⟩, trivial⟩⟩
  · skip
    replace c2 := hid c2
    refine go_retq PM157 (k := 1) (r := some (.inl 20)) (w1 := (SH, dt)) rfl ?_
    exact ⟨rfl, ⟨_, rfl, ⟨by decide, by decide⟩, trivial⟩⟩
set_option maxRecDepth 20000 in
theorem sp_X6_lawWord (L : Nat) (xs : Nat → Int32) (sio : Option Nat) (d : Nat) (dt : Nat → Nat → Int) (hI : InvC dt)   (h_p0 : dt 79 13 ≤ 500) : GO (am_XX L xs sio) (d + 5) 158 0 [some (.inr (.inr (some 79)))] [] (SH, dt) (fun r w2 => w2 = (SH, dt) ∧ ((∃ v : Int, r = some (.inl v) ∧ (1 ≤ v ∧ v ≤ 46) ∧ True))) := by
  refine go_toq PM158 (k := 2) (pc' := 3) (L' := [some (.inr (.inr (some 79)))]) (st' := [.inr (.inr (some 1012)), .inr (.inr (some 79))]) (w' := (SH, dt)) rfl ?_
  refine go_callq PM158 PM156 (Q' := _) rfl rfl rfl rfl (sp_X6_is_1012 L xs sio (d + 0) dt hI   (by first | exact True.intro | with_reducible assumption | rfl | fail | trivial)) ?_
  rintro _ _ ⟨rfl, h1⟩
  refine ⟨rfl, ?_⟩
  rcases h1 with ⟨v_h1, rfl, h1r, h1⟩
  refine go_ifq PM158 (k := 0) (p1 := 12) (p2 := 9) (L' := [some (.inr (.inr (some 79)))]) (st' := []) (w' := (SH, dt)) rfl (z_eq (a := v_h1) (by first | exact bnd h1r (by decide) (by decide) | exact ⟨by fail, by fail⟩)) (fun c2 => ?_) (fun c2 => ?_)
  · skip
    refine go_toq PM158 (k := 2) (pc' := 15) (L' := [some (.inr (.inr (some 79)))]) (st' := [.inr (.inr (some 1013)), .inr (.inr (some 79))]) (w' := (SH, dt)) rfl ?_
    refine go_callq PM158 PM156 (Q' := _) rfl rfl rfl rfl (sp_X6_is_1013 L xs sio (d + 0) dt hI   (by first | exact True.intro | with_reducible assumption | rfl | fail | trivial)) ?_
    rintro _ _ ⟨rfl, h3⟩
    refine ⟨rfl, ?_⟩
    rcases h3 with ⟨v_h3, rfl, h3r, h3⟩
    refine go_ifq PM158 (k := 0) (p1 := 24) (p2 := 21) (L' := [some (.inr (.inr (some 79)))]) (st' := []) (w' := (SH, dt)) rfl (z_eq (a := v_h3) (by first | exact bnd h3r (by decide) (by decide) | exact ⟨by fail, by fail⟩)) (fun c4 => ?_) (fun c4 => ?_)
    · skip
      refine go_toq PM158 (k := 2) (pc' := 27) (L' := [some (.inr (.inr (some 79)))]) (st' := [.inr (.inr (some 1014)), .inr (.inr (some 79))]) (w' := (SH, dt)) rfl ?_
      refine go_callq PM158 PM156 (Q' := _) rfl rfl rfl rfl (sp_X6_is_1014 L xs sio (d + 0) dt hI   (by first | exact True.intro | with_reducible assumption | rfl | fail | trivial)) ?_
      rintro _ _ ⟨rfl, h5⟩
      refine ⟨rfl, ?_⟩
      rcases h5 with ⟨v_h5, rfl, h5r, h5⟩
      refine go_ifq PM158 (k := 0) (p1 := 35) (p2 := 33) (L' := [some (.inr (.inr (some 79)))]) (st' := []) (w' := (SH, dt)) rfl (z_eq (a := v_h5) (by first | exact bnd h5r (by decide) (by decide) | exact ⟨by fail, by fail⟩)) (fun c6 => ?_) (fun c6 => ?_)
      · skip
        refine go_toq PM158 (k := 2) (pc' := 38) (L' := [some (.inr (.inr (some 79)))]) (st' := [.inr (.inr (some 1015)), .inr (.inr (some 79))]) (w' := (SH, dt)) rfl ?_
        refine go_callq PM158 PM156 (Q' := _) rfl rfl rfl rfl (sp_X6_is_1015 L xs sio (d + 0) dt hI   (by first | exact True.intro | with_reducible assumption | rfl | fail | trivial)) ?_
        rintro _ _ ⟨rfl, h7⟩
        refine ⟨rfl, ?_⟩
        rcases h7 with ⟨v_h7, rfl, h7r, h7⟩
        refine go_ifq PM158 (k := 0) (p1 := 46) (p2 := 44) (L' := [some (.inr (.inr (some 79)))]) (st' := []) (w' := (SH, dt)) rfl (z_eq (a := v_h7) (by first | exact bnd h7r (by decide) (by decide) | exact ⟨by fail, by fail⟩)) (fun c8 => ?_) (fun c8 => ?_)
        · skip
          refine go_toq PM158 (k := 2) (pc' := 49) (L' := [some (.inr (.inr (some 79)))]) (st' := [.inr (.inr (some 1016)), .inr (.inr (some 79))]) (w' := (SH, dt)) rfl ?_
          refine go_callq PM158 PM156 (Q' := _) rfl rfl rfl rfl (sp_X6_is_1016 L xs sio (d + 0) dt hI   (by first | exact True.intro | with_reducible assumption | rfl | fail | trivial)) ?_
          rintro _ _ ⟨rfl, h9⟩
          refine ⟨rfl, ?_⟩
          rcases h9 with ⟨v_h9, rfl, h9r, h9⟩
          refine go_ifq PM158 (k := 0) (p1 := 57) (p2 := 55) (L' := [some (.inr (.inr (some 79)))]) (st' := []) (w' := (SH, dt)) rfl (z_eq (a := v_h9) (by first | exact bnd h9r (by decide) (by decide) | exact ⟨by fail, by fail⟩)) (fun c10 => ?_) (fun c10 => ?_)
          · skip
            refine go_toq PM158 (k := 2) (pc' := 60) (L' := [some (.inr (.inr (some 79)))]) (st' := [.inr (.inr (some 1017)), .inr (.inr (some 79))]) (w' := (SH, dt)) rfl ?_
            refine go_callq PM158 PM156 (Q' := _) rfl rfl rfl rfl (sp_X6_is_1017 L xs sio (d + 0) dt hI   (by first | exact True.intro | with_reducible assumption | rfl | fail | trivial)) ?_
            rintro _ _ ⟨rfl, h11⟩
            refine ⟨rfl, ?_⟩
            rcases h11 with ⟨v_h11, rfl, h11r, h11⟩
            refine go_ifq PM158 (k := 0) (p1 := 69) (p2 := 66) (L' := [some (.inr (.inr (some 79)))]) (st' := []) (w' := (SH, dt)) rfl (z_eq (a := v_h11) (by first | exact bnd h11r (by decide) (by decide) | exact ⟨by fail, by fail⟩)) (fun c12 => ?_) (fun c12 => ?_)
            · skip
              refine go_toq PM158 (k := 2) (pc' := 72) (L' := [some (.inr (.inr (some 79)))]) (st' := [.inr (.inr (some 1018)), .inr (.inr (some 79))]) (w' := (SH, dt)) rfl ?_
              refine go_callq PM158 PM156 (Q' := _) rfl rfl rfl rfl (sp_X6_is_1018 L xs sio (d + 0) dt hI   (by first | exact True.intro | with_reducible assumption | rfl | fail | trivial)) ?_
              rintro _ _ ⟨rfl, h13⟩
              refine ⟨rfl, ?_⟩
              rcases h13 with ⟨v_h13, rfl, h13r, h13⟩
              refine go_ifq PM158 (k := 0) (p1 := 81) (p2 := 78) (L' := [some (.inr (.inr (some 79)))]) (st' := []) (w' := (SH, dt)) rfl (z_eq (a := v_h13) (by first | exact bnd h13r (by decide) (by decide) | exact ⟨by fail, by fail⟩)) (fun c14 => ?_) (fun c14 => ?_)
              · skip
                refine go_toq PM158 (k := 2) (pc' := 84) (L' := [some (.inr (.inr (some 79)))]) (st' := [.inr (.inr (some 1019)), .inr (.inr (some 79))]) (w' := (SH, dt)) rfl ?_
                refine go_callq PM158 PM156 (Q' := _) rfl rfl rfl rfl (sp_X6_is_1019 L xs sio (d + 0) dt hI   (by first | exact True.intro | with_reducible assumption | rfl | fail | trivial)) ?_
                rintro _ _ ⟨rfl, h15⟩
                refine ⟨rfl, ?_⟩
                rcases h15 with ⟨v_h15, rfl, h15r, h15⟩
                refine go_ifq PM158 (k := 0) (p1 := 93) (p2 := 90) (L' := [some (.inr (.inr (some 79)))]) (st' := []) (w' := (SH, dt)) rfl (z_eq (a := v_h15) (by first | exact bnd h15r (by decide) (by decide) | exact ⟨by fail, by fail⟩)) (fun c16 => ?_) (fun c16 => ?_)
                · skip
                  refine go_toq PM158 (k := 2) (pc' := 96) (L' := [some (.inr (.inr (some 79)))]) (st' := [.inr (.inr (some 1020)), .inr (.inr (some 79))]) (w' := (SH, dt)) rfl ?_
                  refine go_callq PM158 PM156 (Q' := _) rfl rfl rfl rfl (sp_X6_is_1020 L xs sio (d + 0) dt hI   (by first | exact True.intro | with_reducible assumption | rfl | fail | trivial)) ?_
                  rintro _ _ ⟨rfl, h17⟩
                  refine ⟨rfl, ?_⟩
                  rcases h17 with ⟨v_h17, rfl, h17r, h17⟩
                  refine go_ifq PM158 (k := 0) (p1 := 105) (p2 := 102) (L' := [some (.inr (.inr (some 79)))]) (st' := []) (w' := (SH, dt)) rfl (z_eq (a := v_h17) (by first | exact bnd h17r (by decide) (by decide) | exact ⟨by fail, by fail⟩)) (fun c18 => ?_) (fun c18 => ?_)
                  · skip
                    refine go_toq PM158 (k := 2) (pc' := 108) (L' := [some (.inr (.inr (some 79)))]) (st' := [.inr (.inr (some 1021)), .inr (.inr (some 79))]) (w' := (SH, dt)) rfl ?_
                    refine go_callq PM158 PM156 (Q' := _) rfl rfl rfl rfl (sp_X6_is_1021 L xs sio (d + 0) dt hI   (by first | exact True.intro | with_reducible assumption | rfl | fail | trivial)) ?_
                    rintro _ _ ⟨rfl, h19⟩
                    refine ⟨rfl, ?_⟩
                    rcases h19 with ⟨v_h19, rfl, h19r, h19⟩
                    refine go_ifq PM158 (k := 0) (p1 := 117) (p2 := 114) (L' := [some (.inr (.inr (some 79)))]) (st' := []) (w' := (SH, dt)) rfl (z_eq (a := v_h19) (by first | exact bnd h19r (by decide) (by decide) | exact ⟨by fail, by fail⟩)) (fun c20 => ?_) (fun c20 => ?_)
                    · skip
                      refine go_toq PM158 (k := 2) (pc' := 120) (L' := [some (.inr (.inr (some 79)))]) (st' := [.inr (.inr (some 1022)), .inr (.inr (some 79))]) (w' := (SH, dt)) rfl ?_
                      refine go_callq PM158 PM156 (Q' := _) rfl rfl rfl rfl (sp_X6_is_1022 L xs sio (d + 0) dt hI   (by first | exact True.intro | with_reducible assumption | rfl | fail | trivial)) ?_
                      rintro _ _ ⟨rfl, h21⟩
                      refine ⟨rfl, ?_⟩
                      rcases h21 with ⟨v_h21, rfl, h21r, h21⟩
                      refine go_ifq PM158 (k := 0) (p1 := 129) (p2 := 126) (L' := [some (.inr (.inr (some 79)))]) (st' := []) (w' := (SH, dt)) rfl (z_eq (a := v_h21) (by first | exact bnd h21r (by decide) (by decide) | exact ⟨by fail, by fail⟩)) (fun c22 => ?_) (fun c22 => ?_)
                      · skip
                        refine go_toq PM158 (k := 2) (pc' := 132) (L' := [some (.inr (.inr (some 79)))]) (st' := [.inr (.inr (some 1023)), .inr (.inr (some 79))]) (w' := (SH, dt)) rfl ?_
                        refine go_callq PM158 PM156 (Q' := _) rfl rfl rfl rfl (sp_X6_is_1023 L xs sio (d + 0) dt hI   (by first | exact True.intro | with_reducible assumption | rfl | fail | trivial)) ?_
                        rintro _ _ ⟨rfl, h23⟩
                        refine ⟨rfl, ?_⟩
                        rcases h23 with ⟨v_h23, rfl, h23r, h23⟩
                        have j25 : ∀ (j25_s0 : Int) (i26 : 1 ≤ j25_s0 ∧ j25_s0 ≤ 46), GO (am_XX L xs sio) (d + 5) 158 144 [some (.inr (.inr (some 79)))] [.inl j25_s0] (SH, dt) (fun r w2 => w2 = (SH, dt) ∧ ((∃ v : Int, r = some (.inl v) ∧ (1 ≤ v ∧ v ≤ 46) ∧ True))) := by
                          intro j25_s0 i26
                          refine go_retq PM158 (k := 0) (r := some (.inl j25_s0)) (w1 := (SH, dt)) rfl ?_
                          exact ⟨rfl, ⟨_, rfl, (by first | exact bnd i26 (by decide) (by decide) | exact ⟨by fail, by fail⟩), trivial⟩⟩
                        refine go_ifq PM158 (k := 0) (p1 := 143) (p2 := 138) (L' := [some (.inr (.inr (some 79)))]) (st' := []) (w' := (SH, dt)) rfl (z_eq (a := v_h23) (by first | exact bnd h23r (by decide) (by decide) | exact ⟨by fail, by fail⟩)) (fun c27 => ?_) (fun c27 => ?_)
                        · skip
                          refine go_toq PM158 (k := 1) (pc' := 144) (L' := [some (.inr (.inr (some 79)))]) (st' := [.inl 1]) (w' := (SH, dt)) rfl ?_
                          exact GO.le (j25 1 ⟨by decide, by decide⟩) ⟨.inl rfl, trivial⟩
                        · skip
                          replace c27 := hid c27
                          refine go_toq PM158 (k := 2) (pc' := 144) (L' := [some (.inr (.inr (some 79)))]) (st' := [.inl 46]) (w' := (SH, dt)) rfl ?_
                          exact GO.le (j25 46 ⟨by decide, by decide⟩) ⟨.inl rfl, trivial⟩
                      · skip
                        replace c22 := hid c22
                        refine go_retq PM158 (k := 1) (r := some (.inl 45)) (w1 := (SH, dt)) rfl ?_
                        exact ⟨rfl, ⟨_, rfl, ⟨by decide, by decide⟩, trivial⟩⟩
                    · skip
                      replace c20 := hid c20
                      refine go_retq PM158 (k := 1) (r := some (.inl 44)) (w1 := (SH, dt)) rfl ?_
                      exact ⟨rfl, ⟨_, rfl, ⟨by decide, by decide⟩, trivial⟩⟩
                  · skip
                    replace c18 := hid c18
                    refine go_retq PM158 (k := 1) (r := some (.inl 43)) (w1 := (SH, dt)) rfl ?_
                    exact ⟨rfl, ⟨_, rfl, ⟨by decide, by decide⟩, trivial⟩⟩
                · skip
                  replace c16 := hid c16
                  refine go_retq PM158 (k := 1) (r := some (.inl 42)) (w1 := (SH, dt)) rfl ?_
                  exact ⟨rfl, ⟨_, rfl, ⟨by decide, by decide⟩, trivial⟩⟩
              · skip
                replace c14 := hid c14
                refine go_retq PM158 (k := 1) (r := some (.inl 41)) (w1 := (SH, dt)) rfl ?_
                exact ⟨rfl, ⟨_, rfl, ⟨by decide, by decide⟩, trivial⟩⟩
            · skip
              replace c12 := hid c12
              refine go_retq PM158 (k := 1) (r := some (.inl 6)) (w1 := (SH, dt)) rfl ?_
              exact ⟨rfl, ⟨_, rfl, ⟨by decide, by decide⟩, trivial⟩⟩
          · skip
            replace c10 := hid c10
            refine go_retq PM158 (k := 1) (r := some (.inl 5)) (w1 := (SH, dt)) rfl ?_
            exact ⟨rfl, ⟨_, rfl, ⟨by decide, by decide⟩, trivial⟩⟩
        · skip
          replace c8 := hid c8
          refine go_retq PM158 (k := 1) (r := some (.inl 4)) (w1 := (SH, dt)) rfl ?_
          exact ⟨rfl, ⟨_, rfl, ⟨by decide, by decide⟩, trivial⟩⟩
      · skip
        replace c6 := hid c6
        refine go_retq PM158 (k := 1) (r := some (.inl 3)) (w1 := (SH, dt)) rfl ?_
        exact ⟨rfl, ⟨_, rfl, ⟨by decide, by decide⟩, trivial⟩⟩
    · skip
      replace c4 := hid c4
      refine go_retq PM158 (k := 1) (r := some (.inl 8)) (w1 := (SH, dt)) rfl ?_
      exact ⟨rfl, ⟨_, rfl, ⟨by decide, by decide⟩, trivial⟩⟩
  · skip
    replace c2 := hid c2
    refine go_retq PM158 (k := 1) (r := some (.inl 7)) (w1 := (SH, dt)) rfl ?_
    exact ⟨rfl, ⟨_, rfl, ⟨by decide, by decide⟩, trivial⟩⟩
set_option maxRecDepth 20000 in
theorem sp_X6_next0 (L : Nat) (xs : Nat → Int32) (sio : Option Nat) (d : Nat) (dt : Nat → Nat → Int) (hI : InvC dt)   (h_p0 : dt 79 13 ≤ 500) : GO (am_XX L xs sio) (d + 6) 159 0 [some (.inr (.inr (some 79))), none, none] [] (SH, dt) (fun r w2 => ∃ dt2 : Nat → Nat → Int, w2 = (SH, dt2) ∧ InvC dt2 ∧ Fr [79] dt dt2 ∧ ((r = none ∧ (dt 79 13 ≤ dt2 79 15) ∧ ((¬ dt2 79 14 = 0 → dt2 79 15 + 1 ≤ dt2 79 13) ∧ dt2 79 13 ≤ 500) ∧ (dt2 79 15 ≤ dt2 79 13) ∧ (dt2 79 2 = dt 79 2) ∧ (dt2 79 9 = dt 79 9) ∧ (dt2 79 10 = dt 79 10) ∧ (dt2 79 11 = dt 79 11) ∧ (dt2 79 12 = dt 79 12) ∧ (dt2 79 20 = dt 79 20)))) := by
  have hF : Fr [79] dt dt := Fr_refl
  have r1 : 0 ≤ dt 79 13 ∧ dt 79 13 ≤ 501 := InvC_get hI 79 13 rfl rfl
  have r2 : 0 ≤ dt 79 12 ∧ dt 79 12 ≤ 500 := InvC_get hI 79 12 rfl rfl
  have loop43 : ∀ (k_ : Nat) (dt33 : Nat → Nat → Int) (hI34 : InvC dt33) (hF35 : Fr [79] dt dt33) (i36 : dt 79 13 ≤ dt33 79 13 ∧ dt33 79 13 ≤ 500) (i37 : dt33 79 2 = dt 79 2) (i38 : dt33 79 9 = dt 79 9) (i39 : dt33 79 10 = dt 79 10) (i40 : dt33 79 11 = dt 79 11) (i41 : dt33 79 12 = dt 79 12) (i42 : dt33 79 20 = dt 79 20), (502 - dt33 79 13).toNat < k_ → GO (am_XX L xs sio) (d + 6) 159 0 [some (.inr (.inr (some 79))), none, none] [] (SH, dt33) (fun r w2 => ∃ dt2 : Nat → Nat → Int, w2 = (SH, dt2) ∧ InvC dt2 ∧ Fr [79] dt dt2 ∧ ((r = none ∧ (dt 79 13 ≤ dt2 79 15) ∧ ((¬ dt2 79 14 = 0 → dt2 79 15 + 1 ≤ dt2 79 13) ∧ dt2 79 13 ≤ 500) ∧ (dt2 79 15 ≤ dt2 79 13) ∧ (dt2 79 2 = dt 79 2) ∧ (dt2 79 9 = dt 79 9) ∧ (dt2 79 10 = dt 79 10) ∧ (dt2 79 11 = dt 79 11) ∧ (dt2 79 12 = dt 79 12) ∧ (dt2 79 20 = dt 79 20)))) := by
    intro k_
    induction k_ with
    | zero => intro dt33 hI34 hF35 i36 i37 i38 i39 i40 i41 i42 hm; exact absurd hm (Nat.not_lt_zero _)
    | succ k_ ih_loop43 =>
      intro dt33 hI34 hF35 i36 i37 i38 i39 i40 i41 i42 hm
      have r44 : 0 ≤ dt33 79 13 ∧ dt33 79 13 ≤ 501 := InvC_get hI34 79 13 rfl rfl
      refine go_toq PM159 (k := 3) (pc' := 5) (L' := [some (.inr (.inr (some 79))), none, none]) (st' := [.inl (dt33 79 13), .inr (.inr (some 79))]) (w' := (SH, dt33)) rfl ?_
      refine go_callq PM159 PM153 (Q' := _) rfl rfl rfl rfl (sp_X6_see L xs sio (d + 5) dt33 hI34  (dt33 79 13) (by first | exact bnd r44 (by decide) (by decide) | exact ⟨by fail, by fail⟩) ) ?_
      rintro _ _ ⟨rfl, h45⟩
      refine ⟨rfl, ?_⟩
      rcases h45 with ⟨v_h45, rfl, h45r, h45⟩
      rw [show dt33 85 = dt 85 from funext (hF35 85 (by decide))] at h45
      refine go_ifq PM159 (k := 1) (p1 := 26) (p2 := 13) (L' := [some (.inr (.inr (some 79))), none, none]) (st' := []) (w' := (SH, dt33)) rfl (c_eq (a := v_h45) (b := 32) (by first | exact bnd h45r (by decide) (by decide) | exact ⟨by fail, by fail⟩) ⟨by decide, by decide⟩) (fun c46 => ?_) (fun c46 => ?_)
      · skip
        refine go_toq PM159 (k := 5) (pc' := 33) (L' := [some (.inr (.inr (some 79))), none, none]) (st' := [.inl ((dt33 79 13) + 1), .inr (.inr (some 79))]) (w' := (SH, dt33)) rfl ?_
        have hI47 : InvC (u2 dt33 79 13 ((dt33 79 13) + 1)) := InvC_u2 hI34 (lo := 0) (hi := 501) rfl rfl rfl (by omega) (by omega)
        have hF48 : Fr [79] dt (u2 dt33 79 13 ((dt33 79 13) + 1)) := Fr_u2 hF35 (by decide)
        have w49 : (u2 dt33 79 13 ((dt33 79 13) + 1)) 79 13 = (dt33 79 13) + 1 := rfl
        have w50 : (u2 dt33 79 13 ((dt33 79 13) + 1)) 79 15 = dt33 79 15 := rfl
        have w51 : (u2 dt33 79 13 ((dt33 79 13) + 1)) 79 14 = dt33 79 14 := rfl
        have w52 : (u2 dt33 79 13 ((dt33 79 13) + 1)) 79 16 = dt33 79 16 := rfl
        have w53 : (u2 dt33 79 13 ((dt33 79 13) + 1)) 79 2 = dt33 79 2 := rfl
        have w54 : (u2 dt33 79 13 ((dt33 79 13) + 1)) 79 9 = dt33 79 9 := rfl
        have w55 : (u2 dt33 79 13 ((dt33 79 13) + 1)) 79 10 = dt33 79 10 := rfl
        have w56 : (u2 dt33 79 13 ((dt33 79 13) + 1)) 79 11 = dt33 79 11 := rfl
        have w57 : (u2 dt33 79 13 ((dt33 79 13) + 1)) 79 12 = dt33 79 12 := rfl
        have w58 : (u2 dt33 79 13 ((dt33 79 13) + 1)) 79 20 = dt33 79 20 := rfl
        refine go_smpq PM159 (L' := [some (.inr (.inr (some 79))), none, none]) (st' := []) (w' := (SH, (u2 dt33 79 13 ((dt33 79 13) + 1)))) rfl rfl (s_pf rfl rfl rfl rfl (by first | exact bndp r44 (by decide) (by decide) | exact ⟨by fail, by fail⟩)) ?_
        refine go_toq PM159 (k := 1) (pc' := 0) (L' := [some (.inr (.inr (some 79))), none, none]) (st' := []) (w' := (SH, (u2 dt33 79 13 ((dt33 79 13) + 1)))) rfl ?_
        exact GO.le (ih_loop43 (u2 dt33 79 13 ((dt33 79 13) + 1)) hI47 hF48 (by omega) (by omega) (by omega) (by omega) (by omega) (by omega) (by omega) (by omega)) ⟨.inl rfl, .inl rfl, .inl rfl, trivial⟩
      · skip
        replace c46 := hid c46
        refine go_toq PM159 (k := 3) (pc' := 18) (L' := [some (.inr (.inr (some 79))), none, none]) (st' := [.inl (dt33 79 13), .inr (.inr (some 79))]) (w' := (SH, dt33)) rfl ?_
        refine go_callq PM159 PM153 (Q' := _) rfl rfl rfl rfl (sp_X6_see L xs sio (d + 5) dt33 hI34  (dt33 79 13) (by first | exact bnd r44 (by decide) (by decide) | exact ⟨by fail, by fail⟩) ) ?_
        rintro _ _ ⟨rfl, h59⟩
        refine ⟨rfl, ?_⟩
        rcases h59 with ⟨v_h59, rfl, h59r, h59⟩
        rw [show dt33 85 = dt 85 from funext (hF35 85 (by decide))] at h59
        refine go_ifq PM159 (k := 1) (p1 := 39) (p2 := 26) (L' := [some (.inr (.inr (some 79))), none, none]) (st' := []) (w' := (SH, dt33)) rfl (c_ne (a := v_h59) (b := 10) (by first | exact bnd h59r (by decide) (by decide) | exact ⟨by fail, by fail⟩) ⟨by decide, by decide⟩) (fun c60 => ?_) (fun c60 => ?_)
        · skip
          replace c60 := hid c60
          refine go_toq PM159 (k := 3) (pc' := 44) (L' := [some (.inr (.inr (some 79))), none, none]) (st' := [.inl (dt33 79 13), .inr (.inr (some 79))]) (w' := (SH, dt33)) rfl ?_
          have hI61 : InvC (u2 dt33 79 15 (dt33 79 13)) := InvC_u2 hI34 (lo := 0) (hi := 500) rfl rfl rfl (by first | exact bnd1 r44 (by decide) | fail) (by first | exact bnd2 r44 (by decide) | omega)
          have hF62 : Fr [79] dt (u2 dt33 79 15 (dt33 79 13)) := Fr_u2 hF35 (by decide)
          have w63 : (u2 dt33 79 15 (dt33 79 13)) 79 13 = dt33 79 13 := rfl
          have w64 : (u2 dt33 79 15 (dt33 79 13)) 79 15 = dt33 79 13 := rfl
          have w65 : (u2 dt33 79 15 (dt33 79 13)) 79 14 = dt33 79 14 := rfl
          have w66 : (u2 dt33 79 15 (dt33 79 13)) 79 16 = dt33 79 16 := rfl
          have w67 : (u2 dt33 79 15 (dt33 79 13)) 79 2 = dt33 79 2 := rfl
          have w68 : (u2 dt33 79 15 (dt33 79 13)) 79 9 = dt33 79 9 := rfl
          have w69 : (u2 dt33 79 15 (dt33 79 13)) 79 10 = dt33 79 10 := rfl
          have w70 : (u2 dt33 79 15 (dt33 79 13)) 79 11 = dt33 79 11 := rfl
          have w71 : (u2 dt33 79 15 (dt33 79 13)) 79 12 = dt33 79 12 := rfl
          have w72 : (u2 dt33 79 15 (dt33 79 13)) 79 20 = dt33 79 20 := rfl
          refine go_smpq PM159 (L' := [some (.inr (.inr (some 79))), none, none]) (st' := []) (w' := (SH, (u2 dt33 79 15 (dt33 79 13)))) rfl rfl (s_pf rfl rfl rfl rfl (by first | exact bnd r44 (by decide) (by decide) | exact ⟨by fail, by fail⟩)) ?_
          refine go_toq PM159 (k := 3) (pc' := 52) (L' := [some (.inr (.inr (some 79))), none, none]) (st' := [.inl (dt33 79 13), .inr (.inr (some 79))]) (w' := (SH, (u2 dt33 79 15 (dt33 79 13)))) rfl ?_
          refine go_callq PM159 PM153 (Q' := _) rfl rfl rfl rfl (sp_X6_see L xs sio (d + 5) (u2 dt33 79 15 (dt33 79 13)) hI61  (dt33 79 13) (by first | exact bnd r44 (by decide) (by decide) | exact ⟨by fail, by fail⟩) ) ?_
          rintro _ _ ⟨rfl, h73⟩
          refine ⟨rfl, ?_⟩
          rcases h73 with ⟨v_h73, rfl, h73r, h73⟩
          rw [show (u2 dt33 79 15 (dt33 79 13)) 85 = dt 85 from funext (hF62 85 (by decide))] at h73
          refine go_ifq PM159 (k := 3) (p1 := 69) (p2 := 61) (L' := [some (.inr (.inr (some 79))), some (.inl v_h73), none]) (st' := []) (w' := (SH, (u2 dt33 79 15 (dt33 79 13)))) rfl (c_ne (a := v_h73) (b := (-1)) (by first | exact bnd h73r (by decide) (by decide) | exact ⟨by fail, by fail⟩) ⟨by decide, by decide⟩) (fun c74 => ?_) (fun c74 => ?_)
          · skip
            replace c74 := hid c74
            refine go_toq PM159 (k := 1) (pc' := 70) (L' := [some (.inr (.inr (some 79))), some (.inl v_h73), none]) (st' := [.inl v_h73]) (w' := (SH, (u2 dt33 79 15 (dt33 79 13)))) rfl ?_
            refine go_callq PM159 PM154 (Q' := _) rfl rfl rfl rfl (sp_X6_isLetter L xs sio (d + 4) (u2 dt33 79 15 (dt33 79 13)) hI61  v_h73 (by first | exact bnd h73r (by decide) (by decide) | exact ⟨by fail, by fail⟩) ) ?_
            rintro _ _ ⟨rfl, h75⟩
            refine ⟨rfl, ?_⟩
            rcases h75 with ⟨v_h75, rfl, h75r, h75⟩
            refine go_ifq PM159 (k := 0) (p1 := 128) (p2 := 76) (L' := [some (.inr (.inr (some 79))), some (.inl v_h73), none]) (st' := []) (w' := (SH, (u2 dt33 79 15 (dt33 79 13)))) rfl (z_eq (a := v_h75) (by first | exact bnd h75r (by decide) (by decide) | exact ⟨by fail, by fail⟩)) (fun c76 => ?_) (fun c76 => ?_)
            · skip
              refine go_toq PM159 (k := 1) (pc' := 129) (L' := [some (.inr (.inr (some 79))), some (.inl v_h73), none]) (st' := [.inl v_h73]) (w' := (SH, (u2 dt33 79 15 (dt33 79 13)))) rfl ?_
              refine go_callq PM159 PM155 (Q' := _) rfl rfl rfl rfl (sp_X6_isDigit L xs sio (d + 4) (u2 dt33 79 15 (dt33 79 13)) hI61  v_h73 (by first | exact bnd h73r (by decide) (by decide) | exact ⟨by fail, by fail⟩) ) ?_
              rintro _ _ ⟨rfl, h77⟩
              refine ⟨rfl, ?_⟩
              rcases h77 with ⟨v_h77, rfl, h77r, h77⟩
              refine go_ifq PM159 (k := 0) (p1 := 228) (p2 := 135) (L' := [some (.inr (.inr (some 79))), some (.inl v_h73), none]) (st' := []) (w' := (SH, (u2 dt33 79 15 (dt33 79 13)))) rfl (z_eq (a := v_h77) (by first | exact bnd h77r (by decide) (by decide) | exact ⟨by fail, by fail⟩)) (fun c78 => ?_) (fun c78 => ?_)
              · skip
                refine go_toq PM159 (k := 5) (pc' := 235) (L' := [some (.inr (.inr (some 79))), some (.inl v_h73), none]) (st' := [.inl ((dt33 79 13) + 1), .inr (.inr (some 79))]) (w' := (SH, (u2 dt33 79 15 (dt33 79 13)))) rfl ?_
                have hI79 : InvC (u2 (u2 dt33 79 15 (dt33 79 13)) 79 13 ((dt33 79 13) + 1)) := InvC_u2 hI61 (lo := 0) (hi := 501) rfl rfl rfl (by omega) (by omega)
                have hF80 : Fr [79] dt (u2 (u2 dt33 79 15 (dt33 79 13)) 79 13 ((dt33 79 13) + 1)) := Fr_u2 hF62 (by decide)
                have w81 : (u2 (u2 dt33 79 15 (dt33 79 13)) 79 13 ((dt33 79 13) + 1)) 79 13 = (dt33 79 13) + 1 := rfl
                have w82 : (u2 (u2 dt33 79 15 (dt33 79 13)) 79 13 ((dt33 79 13) + 1)) 79 15 = (u2 dt33 79 15 (dt33 79 13)) 79 15 := rfl
                have w83 : (u2 (u2 dt33 79 15 (dt33 79 13)) 79 13 ((dt33 79 13) + 1)) 79 14 = (u2 dt33 79 15 (dt33 79 13)) 79 14 := rfl
                have w84 : (u2 (u2 dt33 79 15 (dt33 79 13)) 79 13 ((dt33 79 13) + 1)) 79 16 = (u2 dt33 79 15 (dt33 79 13)) 79 16 := rfl
                have w85 : (u2 (u2 dt33 79 15 (dt33 79 13)) 79 13 ((dt33 79 13) + 1)) 79 2 = (u2 dt33 79 15 (dt33 79 13)) 79 2 := rfl
                have w86 : (u2 (u2 dt33 79 15 (dt33 79 13)) 79 13 ((dt33 79 13) + 1)) 79 9 = (u2 dt33 79 15 (dt33 79 13)) 79 9 := rfl
                have w87 : (u2 (u2 dt33 79 15 (dt33 79 13)) 79 13 ((dt33 79 13) + 1)) 79 10 = (u2 dt33 79 15 (dt33 79 13)) 79 10 := rfl
                have w88 : (u2 (u2 dt33 79 15 (dt33 79 13)) 79 13 ((dt33 79 13) + 1)) 79 11 = (u2 dt33 79 15 (dt33 79 13)) 79 11 := rfl
                have w89 : (u2 (u2 dt33 79 15 (dt33 79 13)) 79 13 ((dt33 79 13) + 1)) 79 12 = (u2 dt33 79 15 (dt33 79 13)) 79 12 := rfl
                have w90 : (u2 (u2 dt33 79 15 (dt33 79 13)) 79 13 ((dt33 79 13) + 1)) 79 20 = (u2 dt33 79 15 (dt33 79 13)) 79 20 := rfl
                refine go_smpq PM159 (L' := [some (.inr (.inr (some 79))), some (.inl v_h73), none]) (st' := []) (w' := (SH, (u2 (u2 dt33 79 15 (dt33 79 13)) 79 13 ((dt33 79 13) + 1)))) rfl rfl (s_pf rfl rfl rfl rfl (by first | exact bndp r44 (by decide) (by decide) | exact ⟨by fail, by fail⟩)) ?_
                refine go_ifq PM159 (k := 2) (p1 := 298) (p2 := 244) (L' := [some (.inr (.inr (some 79))), some (.inl v_h73), none]) (st' := []) (w' := (SH, (u2 (u2 dt33 79 15 (dt33 79 13)) 79 13 ((dt33 79 13) + 1)))) rfl (c_eq (a := v_h73) (b := 59) (by first | exact bnd h73r (by decide) (by decide) | exact ⟨by fail, by fail⟩) ⟨by decide, by decide⟩) (fun c91 => ?_) (fun c91 => ?_)
                · skip
                  refine go_toq PM159 (k := 10) (pc' := 317) (L' := [some (.inr (.inr (some 79))), some (.inl v_h73), some (.inl 1)]) (st' := [.inl (100 + v_h73), .inr (.inr (some 79))]) (w' := (SH, (u2 (u2 dt33 79 15 (dt33 79 13)) 79 13 ((dt33 79 13) + 1)))) rfl ?_
                  have hI92 : InvC (u2 (u2 (u2 dt33 79 15 (dt33 79 13)) 79 13 ((dt33 79 13) + 1)) 79 14 (100 + v_h73)) := InvC_u2 hI79 (lo := -2147483648) (hi := 2147483647) rfl rfl rfl (by omega) (by omega)
                  have hF93 : Fr [79] dt (u2 (u2 (u2 dt33 79 15 (dt33 79 13)) 79 13 ((dt33 79 13) + 1)) 79 14 (100 + v_h73)) := Fr_u2 hF80 (by decide)
                  have w94 : (u2 (u2 (u2 dt33 79 15 (dt33 79 13)) 79 13 ((dt33 79 13) + 1)) 79 14 (100 + v_h73)) 79 13 = (u2 (u2 dt33 79 15 (dt33 79 13)) 79 13 ((dt33 79 13) + 1)) 79 13 := rfl
                  have w95 : (u2 (u2 (u2 dt33 79 15 (dt33 79 13)) 79 13 ((dt33 79 13) + 1)) 79 14 (100 + v_h73)) 79 15 = (u2 (u2 dt33 79 15 (dt33 79 13)) 79 13 ((dt33 79 13) + 1)) 79 15 := rfl
                  have w96 : (u2 (u2 (u2 dt33 79 15 (dt33 79 13)) 79 13 ((dt33 79 13) + 1)) 79 14 (100 + v_h73)) 79 14 = 100 + v_h73 := rfl
                  have w97 : (u2 (u2 (u2 dt33 79 15 (dt33 79 13)) 79 13 ((dt33 79 13) + 1)) 79 14 (100 + v_h73)) 79 16 = (u2 (u2 dt33 79 15 (dt33 79 13)) 79 13 ((dt33 79 13) + 1)) 79 16 := rfl
                  have w98 : (u2 (u2 (u2 dt33 79 15 (dt33 79 13)) 79 13 ((dt33 79 13) + 1)) 79 14 (100 + v_h73)) 79 2 = (u2 (u2 dt33 79 15 (dt33 79 13)) 79 13 ((dt33 79 13) + 1)) 79 2 := rfl
                  have w99 : (u2 (u2 (u2 dt33 79 15 (dt33 79 13)) 79 13 ((dt33 79 13) + 1)) 79 14 (100 + v_h73)) 79 9 = (u2 (u2 dt33 79 15 (dt33 79 13)) 79 13 ((dt33 79 13) + 1)) 79 9 := rfl
                  have w100 : (u2 (u2 (u2 dt33 79 15 (dt33 79 13)) 79 13 ((dt33 79 13) + 1)) 79 14 (100 + v_h73)) 79 10 = (u2 (u2 dt33 79 15 (dt33 79 13)) 79 13 ((dt33 79 13) + 1)) 79 10 := rfl
                  have w101 : (u2 (u2 (u2 dt33 79 15 (dt33 79 13)) 79 13 ((dt33 79 13) + 1)) 79 14 (100 + v_h73)) 79 11 = (u2 (u2 dt33 79 15 (dt33 79 13)) 79 13 ((dt33 79 13) + 1)) 79 11 := rfl
                  have w102 : (u2 (u2 (u2 dt33 79 15 (dt33 79 13)) 79 13 ((dt33 79 13) + 1)) 79 14 (100 + v_h73)) 79 12 = (u2 (u2 dt33 79 15 (dt33 79 13)) 79 13 ((dt33 79 13) + 1)) 79 12 := rfl
                  have w103 : (u2 (u2 (u2 dt33 79 15 (dt33 79 13)) 79 13 ((dt33 79 13) + 1)) 79 14 (100 + v_h73)) 79 20 = (u2 (u2 dt33 79 15 (dt33 79 13)) 79 13 ((dt33 79 13) + 1)) 79 20 := rfl
                  refine go_smpq PM159 (L' := [some (.inr (.inr (some 79))), some (.inl v_h73), some (.inl 1)]) (st' := []) (w' := (SH, (u2 (u2 (u2 dt33 79 15 (dt33 79 13)) 79 13 ((dt33 79 13) + 1)) 79 14 (100 + v_h73)))) rfl rfl (s_pf rfl rfl rfl rfl ⟨by omega, by omega⟩) ?_
                  refine go_retq PM159 (k := 0) (r := none) (w1 := (SH, (u2 (u2 (u2 dt33 79 15 (dt33 79 13)) 79 13 ((dt33 79 13) + 1)) 79 14 (100 + v_h73)))) rfl ?_
                  exact ⟨(u2 (u2 (u2 dt33 79 15 (dt33 79 13)) 79 13 ((dt33 79 13) + 1)) 79 14 (100 + v_h73)), rfl, hI92, hF93, ⟨rfl, ⟨by first | exact True.intro | with_reducible assumption | exact unhid (by with_reducible assumption) | rfl | omega | trivial, by first | exact True.intro | with_reducible assumption | exact unhid (by with_reducible assumption) | rfl | omega | trivial, by first | exact True.intro | with_reducible assumption | exact unhid (by with_reducible assumption) | rfl | omega | trivial, by first | exact True.intro | with_reducible assumption | exact unhid (by with_reducible assumption) | rfl | omega | trivial, by first | exact True.intro | with_reducible assumption | exact unhid (by with_reducible assumption) | rfl | omega | trivial, by first | exact True.intro | with_reducible assumption | exact unhid (by with_reducible assumption) | rfl | omega | trivial, by first | exact True.intro | with_reducible assumption | exact unhid (by with_reducible assumption) | rfl | omega | trivial, by first | exact True.intro | with_reducible assumption | exact unhid (by with_reducible assumption) | rfl | omega | trivial, by first | exact True.intro | with_reducible assumption | exact unhid (by with_reducible assumption) | rfl | omega | trivial⟩⟩⟩
                · skip
                  replace c91 := hid c91
                  refine go_ifq PM159 (k := 2) (p1 := 298) (p2 := 250) (L' := [some (.inr (.inr (some 79))), some (.inl v_h73), none]) (st' := []) (w' := (SH, (u2 (u2 dt33 79 15 (dt33 79 13)) 79 13 ((dt33 79 13) + 1)))) rfl (c_eq (a := v_h73) (b := 43) (by first | exact bnd h73r (by decide) (by decide) | exact ⟨by fail, by fail⟩) ⟨by decide, by decide⟩) (fun c104 => ?_) (fun c104 => ?_)
                  · skip
                    refine go_toq PM159 (k := 10) (pc' := 317) (L' := [some (.inr (.inr (some 79))), some (.inl v_h73), some (.inl 1)]) (st' := [.inl (100 + v_h73), .inr (.inr (some 79))]) (w' := (SH, (u2 (u2 dt33 79 15 (dt33 79 13)) 79 13 ((dt33 79 13) + 1)))) rfl ?_
                    have hI105 : InvC (u2 (u2 (u2 dt33 79 15 (dt33 79 13)) 79 13 ((dt33 79 13) + 1)) 79 14 (100 + v_h73)) := InvC_u2 hI79 (lo := -2147483648) (hi := 2147483647) rfl rfl rfl (by omega) (by omega)
                    have hF106 : Fr [79] dt (u2 (u2 (u2 dt33 79 15 (dt33 79 13)) 79 13 ((dt33 79 13) + 1)) 79 14 (100 + v_h73)) := Fr_u2 hF80 (by decide)
                    have w107 : (u2 (u2 (u2 dt33 79 15 (dt33 79 13)) 79 13 ((dt33 79 13) + 1)) 79 14 (100 + v_h73)) 79 13 = (u2 (u2 dt33 79 15 (dt33 79 13)) 79 13 ((dt33 79 13) + 1)) 79 13 := rfl
                    have w108 : (u2 (u2 (u2 dt33 79 15 (dt33 79 13)) 79 13 ((dt33 79 13) + 1)) 79 14 (100 + v_h73)) 79 15 = (u2 (u2 dt33 79 15 (dt33 79 13)) 79 13 ((dt33 79 13) + 1)) 79 15 := rfl
                    have w109 : (u2 (u2 (u2 dt33 79 15 (dt33 79 13)) 79 13 ((dt33 79 13) + 1)) 79 14 (100 + v_h73)) 79 14 = 100 + v_h73 := rfl
                    have w110 : (u2 (u2 (u2 dt33 79 15 (dt33 79 13)) 79 13 ((dt33 79 13) + 1)) 79 14 (100 + v_h73)) 79 16 = (u2 (u2 dt33 79 15 (dt33 79 13)) 79 13 ((dt33 79 13) + 1)) 79 16 := rfl
                    have w111 : (u2 (u2 (u2 dt33 79 15 (dt33 79 13)) 79 13 ((dt33 79 13) + 1)) 79 14 (100 + v_h73)) 79 2 = (u2 (u2 dt33 79 15 (dt33 79 13)) 79 13 ((dt33 79 13) + 1)) 79 2 := rfl
                    have w112 : (u2 (u2 (u2 dt33 79 15 (dt33 79 13)) 79 13 ((dt33 79 13) + 1)) 79 14 (100 + v_h73)) 79 9 = (u2 (u2 dt33 79 15 (dt33 79 13)) 79 13 ((dt33 79 13) + 1)) 79 9 := rfl
                    have w113 : (u2 (u2 (u2 dt33 79 15 (dt33 79 13)) 79 13 ((dt33 79 13) + 1)) 79 14 (100 + v_h73)) 79 10 = (u2 (u2 dt33 79 15 (dt33 79 13)) 79 13 ((dt33 79 13) + 1)) 79 10 := rfl
                    have w114 : (u2 (u2 (u2 dt33 79 15 (dt33 79 13)) 79 13 ((dt33 79 13) + 1)) 79 14 (100 + v_h73)) 79 11 = (u2 (u2 dt33 79 15 (dt33 79 13)) 79 13 ((dt33 79 13) + 1)) 79 11 := rfl
                    have w115 : (u2 (u2 (u2 dt33 79 15 (dt33 79 13)) 79 13 ((dt33 79 13) + 1)) 79 14 (100 + v_h73)) 79 12 = (u2 (u2 dt33 79 15 (dt33 79 13)) 79 13 ((dt33 79 13) + 1)) 79 12 := rfl
                    have w116 : (u2 (u2 (u2 dt33 79 15 (dt33 79 13)) 79 13 ((dt33 79 13) + 1)) 79 14 (100 + v_h73)) 79 20 = (u2 (u2 dt33 79 15 (dt33 79 13)) 79 13 ((dt33 79 13) + 1)) 79 20 := rfl
                    refine go_smpq PM159 (L' := [some (.inr (.inr (some 79))), some (.inl v_h73), some (.inl 1)]) (st' := []) (w' := (SH, (u2 (u2 (u2 dt33 79 15 (dt33 79 13)) 79 13 ((dt33 79 13) + 1)) 79 14 (100 + v_h73)))) rfl rfl (s_pf rfl rfl rfl rfl ⟨by omega, by omega⟩) ?_
                    refine go_retq PM159 (k := 0) (r := none) (w1 := (SH, (u2 (u2 (u2 dt33 79 15 (dt33 79 13)) 79 13 ((dt33 79 13) + 1)) 79 14 (100 + v_h73)))) rfl ?_
                    exact ⟨(u2 (u2 (u2 dt33 79 15 (dt33 79 13)) 79 13 ((dt33 79 13) + 1)) 79 14 (100 + v_h73)), rfl, hI105, hF106, ⟨rfl, ⟨by first | exact True.intro | with_reducible assumption | exact unhid (by with_reducible assumption) | rfl | omega | trivial, by first | exact True.intro | with_reducible assumption | exact unhid (by with_reducible assumption) | rfl | omega | trivial, by first | exact True.intro | with_reducible assumption | exact unhid (by with_reducible assumption) | rfl | omega | trivial, by first | exact True.intro | with_reducible assumption | exact unhid (by with_reducible assumption) | rfl | omega | trivial, by first | exact True.intro | with_reducible assumption | exact unhid (by with_reducible assumption) | rfl | omega | trivial, by first | exact True.intro | with_reducible assumption | exact unhid (by with_reducible assumption) | rfl | omega | trivial, by first | exact True.intro | with_reducible assumption | exact unhid (by with_reducible assumption) | rfl | omega | trivial, by first | exact True.intro | with_reducible assumption | exact unhid (by with_reducible assumption) | rfl | omega | trivial, by first | exact True.intro | with_reducible assumption | exact unhid (by with_reducible assumption) | rfl | omega | trivial⟩⟩⟩
                  · skip
                    replace c104 := hid c104
                    refine go_ifq PM159 (k := 2) (p1 := 298) (p2 := 256) (L' := [some (.inr (.inr (some 79))), some (.inl v_h73), none]) (st' := []) (w' := (SH, (u2 (u2 dt33 79 15 (dt33 79 13)) 79 13 ((dt33 79 13) + 1)))) rfl (c_eq (a := v_h73) (b := 45) (by first | exact bnd h73r (by decide) (by decide) | exact ⟨by fail, by fail⟩) ⟨by decide, by decide⟩) (fun c117 => ?_) (fun c117 => ?_)
                    · skip
                      refine go_toq PM159 (k := 10) (pc' := 317) (L' := [some (.inr (.inr (some 79))), some (.inl v_h73), some (.inl 1)]) (st' := [.inl (100 + v_h73), .inr (.inr (some 79))]) (w' := (SH, (u2 (u2 dt33 79 15 (dt33 79 13)) 79 13 ((dt33 79 13) + 1)))) rfl ?_
                      have hI118 : InvC (u2 (u2 (u2 dt33 79 15 (dt33 79 13)) 79 13 ((dt33 79 13) + 1)) 79 14 (100 + v_h73)) := InvC_u2 hI79 (lo := -2147483648) (hi := 2147483647) rfl rfl rfl (by omega) (by omega)
                      have hF119 : Fr [79] dt (u2 (u2 (u2 dt33 79 15 (dt33 79 13)) 79 13 ((dt33 79 13) + 1)) 79 14 (100 + v_h73)) := Fr_u2 hF80 (by decide)
                      have w120 : (u2 (u2 (u2 dt33 79 15 (dt33 79 13)) 79 13 ((dt33 79 13) + 1)) 79 14 (100 + v_h73)) 79 13 = (u2 (u2 dt33 79 15 (dt33 79 13)) 79 13 ((dt33 79 13) + 1)) 79 13 := rfl
                      have w121 : (u2 (u2 (u2 dt33 79 15 (dt33 79 13)) 79 13 ((dt33 79 13) + 1)) 79 14 (100 + v_h73)) 79 15 = (u2 (u2 dt33 79 15 (dt33 79 13)) 79 13 ((dt33 79 13) + 1)) 79 15 := rfl
                      have w122 : (u2 (u2 (u2 dt33 79 15 (dt33 79 13)) 79 13 ((dt33 79 13) + 1)) 79 14 (100 + v_h73)) 79 14 = 100 + v_h73 := rfl
                      have w123 : (u2 (u2 (u2 dt33 79 15 (dt33 79 13)) 79 13 ((dt33 79 13) + 1)) 79 14 (100 + v_h73)) 79 16 = (u2 (u2 dt33 79 15 (dt33 79 13)) 79 13 ((dt33 79 13) + 1)) 79 16 := rfl
                      have w124 : (u2 (u2 (u2 dt33 79 15 (dt33 79 13)) 79 13 ((dt33 79 13) + 1)) 79 14 (100 + v_h73)) 79 2 = (u2 (u2 dt33 79 15 (dt33 79 13)) 79 13 ((dt33 79 13) + 1)) 79 2 := rfl
                      have w125 : (u2 (u2 (u2 dt33 79 15 (dt33 79 13)) 79 13 ((dt33 79 13) + 1)) 79 14 (100 + v_h73)) 79 9 = (u2 (u2 dt33 79 15 (dt33 79 13)) 79 13 ((dt33 79 13) + 1)) 79 9 := rfl
                      have w126 : (u2 (u2 (u2 dt33 79 15 (dt33 79 13)) 79 13 ((dt33 79 13) + 1)) 79 14 (100 + v_h73)) 79 10 = (u2 (u2 dt33 79 15 (dt33 79 13)) 79 13 ((dt33 79 13) + 1)) 79 10 := rfl
                      have w127 : (u2 (u2 (u2 dt33 79 15 (dt33 79 13)) 79 13 ((dt33 79 13) + 1)) 79 14 (100 + v_h73)) 79 11 = (u2 (u2 dt33 79 15 (dt33 79 13)) 79 13 ((dt33 79 13) + 1)) 79 11 := rfl
                      have w128 : (u2 (u2 (u2 dt33 79 15 (dt33 79 13)) 79 13 ((dt33 79 13) + 1)) 79 14 (100 + v_h73)) 79 12 = (u2 (u2 dt33 79 15 (dt33 79 13)) 79 13 ((dt33 79 13) + 1)) 79 12 := rfl
                      have w129 : (u2 (u2 (u2 dt33 79 15 (dt33 79 13)) 79 13 ((dt33 79 13) + 1)) 79 14 (100 + v_h73)) 79 20 = (u2 (u2 dt33 79 15 (dt33 79 13)) 79 13 ((dt33 79 13) + 1)) 79 20 := rfl
                      refine go_smpq PM159 (L' := [some (.inr (.inr (some 79))), some (.inl v_h73), some (.inl 1)]) (st' := []) (w' := (SH, (u2 (u2 (u2 dt33 79 15 (dt33 79 13)) 79 13 ((dt33 79 13) + 1)) 79 14 (100 + v_h73)))) rfl rfl (s_pf rfl rfl rfl rfl ⟨by omega, by omega⟩) ?_
                      refine go_retq PM159 (k := 0) (r := none) (w1 := (SH, (u2 (u2 (u2 dt33 79 15 (dt33 79 13)) 79 13 ((dt33 79 13) + 1)) 79 14 (100 + v_h73)))) rfl ?_
                      exact ⟨(u2 (u2 (u2 dt33 79 15 (dt33 79 13)) 79 13 ((dt33 79 13) + 1)) 79 14 (100 + v_h73)), rfl, hI118, hF119, ⟨rfl, ⟨by first | exact True.intro | with_reducible assumption | exact unhid (by with_reducible assumption) | rfl | omega | trivial, by first | exact True.intro | with_reducible assumption | exact unhid (by with_reducible assumption) | rfl | omega | trivial, by first | exact True.intro | with_reducible assumption | exact unhid (by with_reducible assumption) | rfl | omega | trivial, by first | exact True.intro | with_reducible assumption | exact unhid (by with_reducible assumption) | rfl | omega | trivial, by first | exact True.intro | with_reducible assumption | exact unhid (by with_reducible assumption) | rfl | omega | trivial, by first | exact True.intro | with_reducible assumption | exact unhid (by with_reducible assumption) | rfl | omega | trivial, by first | exact True.intro | with_reducible assumption | exact unhid (by with_reducible assumption) | rfl | omega | trivial, by first | exact True.intro | with_reducible assumption | exact unhid (by with_reducible assumption) | rfl | omega | trivial, by first | exact True.intro | with_reducible assumption | exact unhid (by with_reducible assumption) | rfl | omega | trivial⟩⟩⟩
                    · skip
                      replace c117 := hid c117
                      refine go_ifq PM159 (k := 2) (p1 := 298) (p2 := 262) (L' := [some (.inr (.inr (some 79))), some (.inl v_h73), none]) (st' := []) (w' := (SH, (u2 (u2 dt33 79 15 (dt33 79 13)) 79 13 ((dt33 79 13) + 1)))) rfl (c_eq (a := v_h73) (b := 42) (by first | exact bnd h73r (by decide) (by decide) | exact ⟨by fail, by fail⟩) ⟨by decide, by decide⟩) (fun c130 => ?_) (fun c130 => ?_)
                      · skip
                        refine go_toq PM159 (k := 10) (pc' := 317) (L' := [some (.inr (.inr (some 79))), some (.inl v_h73), some (.inl 1)]) (st' := [.inl (100 + v_h73), .inr (.inr (some 79))]) (w' := (SH, (u2 (u2 dt33 79 15 (dt33 79 13)) 79 13 ((dt33 79 13) + 1)))) rfl ?_
                        have hI131 : InvC (u2 (u2 (u2 dt33 79 15 (dt33 79 13)) 79 13 ((dt33 79 13) + 1)) 79 14 (100 + v_h73)) := InvC_u2 hI79 (lo := -2147483648) (hi := 2147483647) rfl rfl rfl (by omega) (by omega)
                        have hF132 : Fr [79] dt (u2 (u2 (u2 dt33 79 15 (dt33 79 13)) 79 13 ((dt33 79 13) + 1)) 79 14 (100 + v_h73)) := Fr_u2 hF80 (by decide)
                        have w133 : (u2 (u2 (u2 dt33 79 15 (dt33 79 13)) 79 13 ((dt33 79 13) + 1)) 79 14 (100 + v_h73)) 79 13 = (u2 (u2 dt33 79 15 (dt33 79 13)) 79 13 ((dt33 79 13) + 1)) 79 13 := rfl
                        have w134 : (u2 (u2 (u2 dt33 79 15 (dt33 79 13)) 79 13 ((dt33 79 13) + 1)) 79 14 (100 + v_h73)) 79 15 = (u2 (u2 dt33 79 15 (dt33 79 13)) 79 13 ((dt33 79 13) + 1)) 79 15 := rfl
                        have w135 : (u2 (u2 (u2 dt33 79 15 (dt33 79 13)) 79 13 ((dt33 79 13) + 1)) 79 14 (100 + v_h73)) 79 14 = 100 + v_h73 := rfl
                        have w136 : (u2 (u2 (u2 dt33 79 15 (dt33 79 13)) 79 13 ((dt33 79 13) + 1)) 79 14 (100 + v_h73)) 79 16 = (u2 (u2 dt33 79 15 (dt33 79 13)) 79 13 ((dt33 79 13) + 1)) 79 16 := rfl
                        have w137 : (u2 (u2 (u2 dt33 79 15 (dt33 79 13)) 79 13 ((dt33 79 13) + 1)) 79 14 (100 + v_h73)) 79 2 = (u2 (u2 dt33 79 15 (dt33 79 13)) 79 13 ((dt33 79 13) + 1)) 79 2 := rfl
                        have w138 : (u2 (u2 (u2 dt33 79 15 (dt33 79 13)) 79 13 ((dt33 79 13) + 1)) 79 14 (100 + v_h73)) 79 9 = (u2 (u2 dt33 79 15 (dt33 79 13)) 79 13 ((dt33 79 13) + 1)) 79 9 := rfl
                        have w139 : (u2 (u2 (u2 dt33 79 15 (dt33 79 13)) 79 13 ((dt33 79 13) + 1)) 79 14 (100 + v_h73)) 79 10 = (u2 (u2 dt33 79 15 (dt33 79 13)) 79 13 ((dt33 79 13) + 1)) 79 10 := rfl
                        have w140 : (u2 (u2 (u2 dt33 79 15 (dt33 79 13)) 79 13 ((dt33 79 13) + 1)) 79 14 (100 + v_h73)) 79 11 = (u2 (u2 dt33 79 15 (dt33 79 13)) 79 13 ((dt33 79 13) + 1)) 79 11 := rfl
                        have w141 : (u2 (u2 (u2 dt33 79 15 (dt33 79 13)) 79 13 ((dt33 79 13) + 1)) 79 14 (100 + v_h73)) 79 12 = (u2 (u2 dt33 79 15 (dt33 79 13)) 79 13 ((dt33 79 13) + 1)) 79 12 := rfl
                        have w142 : (u2 (u2 (u2 dt33 79 15 (dt33 79 13)) 79 13 ((dt33 79 13) + 1)) 79 14 (100 + v_h73)) 79 20 = (u2 (u2 dt33 79 15 (dt33 79 13)) 79 13 ((dt33 79 13) + 1)) 79 20 := rfl
                        refine go_smpq PM159 (L' := [some (.inr (.inr (some 79))), some (.inl v_h73), some (.inl 1)]) (st' := []) (w' := (SH, (u2 (u2 (u2 dt33 79 15 (dt33 79 13)) 79 13 ((dt33 79 13) + 1)) 79 14 (100 + v_h73)))) rfl rfl (s_pf rfl rfl rfl rfl ⟨by omega, by omega⟩) ?_
                        refine go_retq PM159 (k := 0) (r := none) (w1 := (SH, (u2 (u2 (u2 dt33 79 15 (dt33 79 13)) 79 13 ((dt33 79 13) + 1)) 79 14 (100 + v_h73)))) rfl ?_
                        exact ⟨(u2 (u2 (u2 dt33 79 15 (dt33 79 13)) 79 13 ((dt33 79 13) + 1)) 79 14 (100 + v_h73)), rfl, hI131, hF132, ⟨rfl, ⟨by first | exact True.intro | with_reducible assumption | exact unhid (by with_reducible assumption) | rfl | omega | trivial, by first | exact True.intro | with_reducible assumption | exact unhid (by with_reducible assumption) | rfl | omega | trivial, by first | exact True.intro | with_reducible assumption | exact unhid (by with_reducible assumption) | rfl | omega | trivial, by first | exact True.intro | with_reducible assumption | exact unhid (by with_reducible assumption) | rfl | omega | trivial, by first | exact True.intro | with_reducible assumption | exact unhid (by with_reducible assumption) | rfl | omega | trivial, by first | exact True.intro | with_reducible assumption | exact unhid (by with_reducible assumption) | rfl | omega | trivial, by first | exact True.intro | with_reducible assumption | exact unhid (by with_reducible assumption) | rfl | omega | trivial, by first | exact True.intro | with_reducible assumption | exact unhid (by with_reducible assumption) | rfl | omega | trivial, by first | exact True.intro | with_reducible assumption | exact unhid (by with_reducible assumption) | rfl | omega | trivial⟩⟩⟩
                      · skip
                        replace c130 := hid c130
                        refine go_ifq PM159 (k := 2) (p1 := 298) (p2 := 268) (L' := [some (.inr (.inr (some 79))), some (.inl v_h73), none]) (st' := []) (w' := (SH, (u2 (u2 dt33 79 15 (dt33 79 13)) 79 13 ((dt33 79 13) + 1)))) rfl (c_eq (a := v_h73) (b := 47) (by first | exact bnd h73r (by decide) (by decide) | exact ⟨by fail, by fail⟩) ⟨by decide, by decide⟩) (fun c143 => ?_) (fun c143 => ?_)
                        · skip
                          refine go_toq PM159 (k := 10) (pc' := 317) (L' := [some (.inr (.inr (some 79))), some (.inl v_h73), some (.inl 1)]) (st' := [.inl (100 + v_h73), .inr (.inr (some 79))]) (w' := (SH, (u2 (u2 dt33 79 15 (dt33 79 13)) 79 13 ((dt33 79 13) + 1)))) rfl ?_
                          have hI144 : InvC (u2 (u2 (u2 dt33 79 15 (dt33 79 13)) 79 13 ((dt33 79 13) + 1)) 79 14 (100 + v_h73)) := InvC_u2 hI79 (lo := -2147483648) (hi := 2147483647) rfl rfl rfl (by omega) (by omega)
                          have hF145 : Fr [79] dt (u2 (u2 (u2 dt33 79 15 (dt33 79 13)) 79 13 ((dt33 79 13) + 1)) 79 14 (100 + v_h73)) := Fr_u2 hF80 (by decide)
                          have w146 : (u2 (u2 (u2 dt33 79 15 (dt33 79 13)) 79 13 ((dt33 79 13) + 1)) 79 14 (100 + v_h73)) 79 13 = (u2 (u2 dt33 79 15 (dt33 79 13)) 79 13 ((dt33 79 13) + 1)) 79 13 := rfl
                          have w147 : (u2 (u2 (u2 dt33 79 15 (dt33 79 13)) 79 13 ((dt33 79 13) + 1)) 79 14 (100 + v_h73)) 79 15 = (u2 (u2 dt33 79 15 (dt33 79 13)) 79 13 ((dt33 79 13) + 1)) 79 15 := rfl
                          have w148 : (u2 (u2 (u2 dt33 79 15 (dt33 79 13)) 79 13 ((dt33 79 13) + 1)) 79 14 (100 + v_h73)) 79 14 = 100 + v_h73 := rfl
                          have w149 : (u2 (u2 (u2 dt33 79 15 (dt33 79 13)) 79 13 ((dt33 79 13) + 1)) 79 14 (100 + v_h73)) 79 16 = (u2 (u2 dt33 79 15 (dt33 79 13)) 79 13 ((dt33 79 13) + 1)) 79 16 := rfl
                          have w150 : (u2 (u2 (u2 dt33 79 15 (dt33 79 13)) 79 13 ((dt33 79 13) + 1)) 79 14 (100 + v_h73)) 79 2 = (u2 (u2 dt33 79 15 (dt33 79 13)) 79 13 ((dt33 79 13) + 1)) 79 2 := rfl
                          have w151 : (u2 (u2 (u2 dt33 79 15 (dt33 79 13)) 79 13 ((dt33 79 13) + 1)) 79 14 (100 + v_h73)) 79 9 = (u2 (u2 dt33 79 15 (dt33 79 13)) 79 13 ((dt33 79 13) + 1)) 79 9 := rfl
                          have w152 : (u2 (u2 (u2 dt33 79 15 (dt33 79 13)) 79 13 ((dt33 79 13) + 1)) 79 14 (100 + v_h73)) 79 10 = (u2 (u2 dt33 79 15 (dt33 79 13)) 79 13 ((dt33 79 13) + 1)) 79 10 := rfl
                          have w153 : (u2 (u2 (u2 dt33 79 15 (dt33 79 13)) 79 13 ((dt33 79 13) + 1)) 79 14 (100 + v_h73)) 79 11 = (u2 (u2 dt33 79 15 (dt33 79 13)) 79 13 ((dt33 79 13) + 1)) 79 11 := rfl
                          have w154 : (u2 (u2 (u2 dt33 79 15 (dt33 79 13)) 79 13 ((dt33 79 13) + 1)) 79 14 (100 + v_h73)) 79 12 = (u2 (u2 dt33 79 15 (dt33 79 13)) 79 13 ((dt33 79 13) + 1)) 79 12 := rfl
                          have w155 : (u2 (u2 (u2 dt33 79 15 (dt33 79 13)) 79 13 ((dt33 79 13) + 1)) 79 14 (100 + v_h73)) 79 20 = (u2 (u2 dt33 79 15 (dt33 79 13)) 79 13 ((dt33 79 13) + 1)) 79 20 := rfl
                          refine go_smpq PM159 (L' := [some (.inr (.inr (some 79))), some (.inl v_h73), some (.inl 1)]) (st' := []) (w' := (SH, (u2 (u2 (u2 dt33 79 15 (dt33 79 13)) 79 13 ((dt33 79 13) + 1)) 79 14 (100 + v_h73)))) rfl rfl (s_pf rfl rfl rfl rfl ⟨by omega, by omega⟩) ?_
                          refine go_retq PM159 (k := 0) (r := none) (w1 := (SH, (u2 (u2 (u2 dt33 79 15 (dt33 79 13)) 79 13 ((dt33 79 13) + 1)) 79 14 (100 + v_h73)))) rfl ?_
                          exact ⟨(u2 (u2 (u2 dt33 79 15 (dt33 79 13)) 79 13 ((dt33 79 13) + 1)) 79 14 (100 + v_h73)), rfl, hI144, hF145, ⟨rfl, ⟨by first | exact True.intro | with_reducible assumption | exact unhid (by with_reducible assumption) | rfl | omega | trivial, by first | exact True.intro | with_reducible assumption | exact unhid (by with_reducible assumption) | rfl | omega | trivial, by first | exact True.intro | with_reducible assumption | exact unhid (by with_reducible assumption) | rfl | omega | trivial, by first | exact True.intro | with_reducible assumption | exact unhid (by with_reducible assumption) | rfl | omega | trivial, by first | exact True.intro | with_reducible assumption | exact unhid (by with_reducible assumption) | rfl | omega | trivial, by first | exact True.intro | with_reducible assumption | exact unhid (by with_reducible assumption) | rfl | omega | trivial, by first | exact True.intro | with_reducible assumption | exact unhid (by with_reducible assumption) | rfl | omega | trivial, by first | exact True.intro | with_reducible assumption | exact unhid (by with_reducible assumption) | rfl | omega | trivial, by first | exact True.intro | with_reducible assumption | exact unhid (by with_reducible assumption) | rfl | omega | trivial⟩⟩⟩
                        · skip
                          replace c143 := hid c143
                          refine go_ifq PM159 (k := 2) (p1 := 298) (p2 := 274) (L' := [some (.inr (.inr (some 79))), some (.inl v_h73), none]) (st' := []) (w' := (SH, (u2 (u2 dt33 79 15 (dt33 79 13)) 79 13 ((dt33 79 13) + 1)))) rfl (c_eq (a := v_h73) (b := 40) (by first | exact bnd h73r (by decide) (by decide) | exact ⟨by fail, by fail⟩) ⟨by decide, by decide⟩) (fun c156 => ?_) (fun c156 => ?_)
                          · skip
                            refine go_toq PM159 (k := 10) (pc' := 317) (L' := [some (.inr (.inr (some 79))), some (.inl v_h73), some (.inl 1)]) (st' := [.inl (100 + v_h73), .inr (.inr (some 79))]) (w' := (SH, (u2 (u2 dt33 79 15 (dt33 79 13)) 79 13 ((dt33 79 13) + 1)))) rfl ?_
                            have hI157 : InvC (u2 (u2 (u2 dt33 79 15 (dt33 79 13)) 79 13 ((dt33 79 13) + 1)) 79 14 (100 + v_h73)) := InvC_u2 hI79 (lo := -2147483648) (hi := 2147483647) rfl rfl rfl (by omega) (by omega)
                            have hF158 : Fr [79] dt (u2 (u2 (u2 dt33 79 15 (dt33 79 13)) 79 13 ((dt33 79 13) + 1)) 79 14 (100 + v_h73)) := Fr_u2 hF80 (by decide)
                            have w159 : (u2 (u2 (u2 dt33 79 15 (dt33 79 13)) 79 13 ((dt33 79 13) + 1)) 79 14 (100 + v_h73)) 79 13 = (u2 (u2 dt33 79 15 (dt33 79 13)) 79 13 ((dt33 79 13) + 1)) 79 13 := rfl
                            have w160 : (u2 (u2 (u2 dt33 79 15 (dt33 79 13)) 79 13 ((dt33 79 13) + 1)) 79 14 (100 + v_h73)) 79 15 = (u2 (u2 dt33 79 15 (dt33 79 13)) 79 13 ((dt33 79 13) + 1)) 79 15 := rfl
                            have w161 : (u2 (u2 (u2 dt33 79 15 (dt33 79 13)) 79 13 ((dt33 79 13) + 1)) 79 14 (100 + v_h73)) 79 14 = 100 + v_h73 := rfl
                            have w162 : (u2 (u2 (u2 dt33 79 15 (dt33 79 13)) 79 13 ((dt33 79 13) + 1)) 79 14 (100 + v_h73)) 79 16 = (u2 (u2 dt33 79 15 (dt33 79 13)) 79 13 ((dt33 79 13) + 1)) 79 16 := rfl
                            have w163 : (u2 (u2 (u2 dt33 79 15 (dt33 79 13)) 79 13 ((dt33 79 13) + 1)) 79 14 (100 + v_h73)) 79 2 = (u2 (u2 dt33 79 15 (dt33 79 13)) 79 13 ((dt33 79 13) + 1)) 79 2 := rfl
                            have w164 : (u2 (u2 (u2 dt33 79 15 (dt33 79 13)) 79 13 ((dt33 79 13) + 1)) 79 14 (100 + v_h73)) 79 9 = (u2 (u2 dt33 79 15 (dt33 79 13)) 79 13 ((dt33 79 13) + 1)) 79 9 := rfl
                            have w165 : (u2 (u2 (u2 dt33 79 15 (dt33 79 13)) 79 13 ((dt33 79 13) + 1)) 79 14 (100 + v_h73)) 79 10 = (u2 (u2 dt33 79 15 (dt33 79 13)) 79 13 ((dt33 79 13) + 1)) 79 10 := rfl
                            have w166 : (u2 (u2 (u2 dt33 79 15 (dt33 79 13)) 79 13 ((dt33 79 13) + 1)) 79 14 (100 + v_h73)) 79 11 = (u2 (u2 dt33 79 15 (dt33 79 13)) 79 13 ((dt33 79 13) + 1)) 79 11 := rfl
                            have w167 : (u2 (u2 (u2 dt33 79 15 (dt33 79 13)) 79 13 ((dt33 79 13) + 1)) 79 14 (100 + v_h73)) 79 12 = (u2 (u2 dt33 79 15 (dt33 79 13)) 79 13 ((dt33 79 13) + 1)) 79 12 := rfl
                            have w168 : (u2 (u2 (u2 dt33 79 15 (dt33 79 13)) 79 13 ((dt33 79 13) + 1)) 79 14 (100 + v_h73)) 79 20 = (u2 (u2 dt33 79 15 (dt33 79 13)) 79 13 ((dt33 79 13) + 1)) 79 20 := rfl
                            refine go_smpq PM159 (L' := [some (.inr (.inr (some 79))), some (.inl v_h73), some (.inl 1)]) (st' := []) (w' := (SH, (u2 (u2 (u2 dt33 79 15 (dt33 79 13)) 79 13 ((dt33 79 13) + 1)) 79 14 (100 + v_h73)))) rfl rfl (s_pf rfl rfl rfl rfl ⟨by omega, by omega⟩) ?_
                            refine go_retq PM159 (k := 0) (r := none) (w1 := (SH, (u2 (u2 (u2 dt33 79 15 (dt33 79 13)) 79 13 ((dt33 79 13) + 1)) 79 14 (100 + v_h73)))) rfl ?_
                            exact ⟨(u2 (u2 (u2 dt33 79 15 (dt33 79 13)) 79 13 ((dt33 79 13) + 1)) 79 14 (100 + v_h73)), rfl, hI157, hF158, ⟨rfl, ⟨by first | exact True.intro | with_reducible assumption | exact unhid (by with_reducible assumption) | rfl | omega | trivial, by first | exact True.intro | with_reducible assumption | exact unhid (by with_reducible assumption) | rfl | omega | trivial, by first | exact True.intro | with_reducible assumption | exact unhid (by with_reducible assumption) | rfl | omega | trivial, by first | exact True.intro | with_reducible assumption | exact unhid (by with_reducible assumption) | rfl | omega | trivial, by first | exact True.intro | with_reducible assumption | exact unhid (by with_reducible assumption) | rfl | omega | trivial, by first | exact True.intro | with_reducible assumption | exact unhid (by with_reducible assumption) | rfl | omega | trivial, by first | exact True.intro | with_reducible assumption | exact unhid (by with_reducible assumption) | rfl | omega | trivial, by first | exact True.intro | with_reducible assumption | exact unhid (by with_reducible assumption) | rfl | omega | trivial, by first | exact True.intro | with_reducible assumption | exact unhid (by with_reducible assumption) | rfl | omega | trivial⟩⟩⟩
                          · skip
                            replace c156 := hid c156
                            refine go_ifq PM159 (k := 2) (p1 := 298) (p2 := 280) (L' := [some (.inr (.inr (some 79))), some (.inl v_h73), none]) (st' := []) (w' := (SH, (u2 (u2 dt33 79 15 (dt33 79 13)) 79 13 ((dt33 79 13) + 1)))) rfl (c_eq (a := v_h73) (b := 41) (by first | exact bnd h73r (by decide) (by decide) | exact ⟨by fail, by fail⟩) ⟨by decide, by decide⟩) (fun c169 => ?_) (fun c169 => ?_)
                            · skip
                              refine go_toq PM159 (k := 10) (pc' := 317) (L' := [some (.inr (.inr (some 79))), some (.inl v_h73), some (.inl 1)]) (st' := [.inl (100 + v_h73), .inr (.inr (some 79))]) (w' := (SH, (u2 (u2 dt33 79 15 (dt33 79 13)) 79 13 ((dt33 79 13) + 1)))) rfl ?_
                              have hI170 : InvC (u2 (u2 (u2 dt33 79 15 (dt33 79 13)) 79 13 ((dt33 79 13) + 1)) 79 14 (100 + v_h73)) := InvC_u2 hI79 (lo := -2147483648) (hi := 2147483647) rfl rfl rfl (by omega) (by omega)
                              have hF171 : Fr [79] dt (u2 (u2 (u2 dt33 79 15 (dt33 79 13)) 79 13 ((dt33 79 13) + 1)) 79 14 (100 + v_h73)) := Fr_u2 hF80 (by decide)
                              have w172 : (u2 (u2 (u2 dt33 79 15 (dt33 79 13)) 79 13 ((dt33 79 13) + 1)) 79 14 (100 + v_h73)) 79 13 = (u2 (u2 dt33 79 15 (dt33 79 13)) 79 13 ((dt33 79 13) + 1)) 79 13 := rfl
                              have w173 : (u2 (u2 (u2 dt33 79 15 (dt33 79 13)) 79 13 ((dt33 79 13) + 1)) 79 14 (100 + v_h73)) 79 15 = (u2 (u2 dt33 79 15 (dt33 79 13)) 79 13 ((dt33 79 13) + 1)) 79 15 := rfl
                              have w174 : (u2 (u2 (u2 dt33 79 15 (dt33 79 13)) 79 13 ((dt33 79 13) + 1)) 79 14 (100 + v_h73)) 79 14 = 100 + v_h73 := rfl
                              have w175 : (u2 (u2 (u2 dt33 79 15 (dt33 79 13)) 79 13 ((dt33 79 13) + 1)) 79 14 (100 + v_h73)) 79 16 = (u2 (u2 dt33 79 15 (dt33 79 13)) 79 13 ((dt33 79 13) + 1)) 79 16 := rfl
                              have w176 : (u2 (u2 (u2 dt33 79 15 (dt33 79 13)) 79 13 ((dt33 79 13) + 1)) 79 14 (100 + v_h73)) 79 2 = (u2 (u2 dt33 79 15 (dt33 79 13)) 79 13 ((dt33 79 13) + 1)) 79 2 := rfl
                              have w177 : (u2 (u2 (u2 dt33 79 15 (dt33 79 13)) 79 13 ((dt33 79 13) + 1)) 79 14 (100 + v_h73)) 79 9 = (u2 (u2 dt33 79 15 (dt33 79 13)) 79 13 ((dt33 79 13) + 1)) 79 9 := rfl
                              have w178 : (u2 (u2 (u2 dt33 79 15 (dt33 79 13)) 79 13 ((dt33 79 13) + 1)) 79 14 (100 + v_h73)) 79 10 = (u2 (u2 dt33 79 15 (dt33 79 13)) 79 13 ((dt33 79 13) + 1)) 79 10 := rfl
                              have w179 : (u2 (u2 (u2 dt33 79 15 (dt33 79 13)) 79 13 ((dt33 79 13) + 1)) 79 14 (100 + v_h73)) 79 11 = (u2 (u2 dt33 79 15 (dt33 79 13)) 79 13 ((dt33 79 13) + 1)) 79 11 := rfl
                              have w180 : (u2 (u2 (u2 dt33 79 15 (dt33 79 13)) 79 13 ((dt33 79 13) + 1)) 79 14 (100 + v_h73)) 79 12 = (u2 (u2 dt33 79 15 (dt33 79 13)) 79 13 ((dt33 79 13) + 1)) 79 12 := rfl
                              have w181 : (u2 (u2 (u2 dt33 79 15 (dt33 79 13)) 79 13 ((dt33 79 13) + 1)) 79 14 (100 + v_h73)) 79 20 = (u2 (u2 dt33 79 15 (dt33 79 13)) 79 13 ((dt33 79 13) + 1)) 79 20 := rfl
                              refine go_smpq PM159 (L' := [some (.inr (.inr (some 79))), some (.inl v_h73), some (.inl 1)]) (st' := []) (w' := (SH, (u2 (u2 (u2 dt33 79 15 (dt33 79 13)) 79 13 ((dt33 79 13) + 1)) 79 14 (100 + v_h73)))) rfl rfl (s_pf rfl rfl rfl rfl ⟨by omega, by omega⟩) ?_
                              refine go_retq PM159 (k := 0) (r := none) (w1 := (SH, (u2 (u2 (u2 dt33 79 15 (dt33 79 13)) 79 13 ((dt33 79 13) + 1)) 79 14 (100 + v_h73)))) rfl ?_
                              exact ⟨(u2 (u2 (u2 dt33 79 15 (dt33 79 13)) 79 13 ((dt33 79 13) + 1)) 79 14 (100 + v_h73)), rfl, hI170, hF171, ⟨rfl, ⟨by first | exact True.intro | with_reducible assumption | exact unhid (by with_reducible assumption) | rfl | omega | trivial, by first | exact True.intro | with_reducible assumption | exact unhid (by with_reducible assumption) | rfl | omega | trivial, by first | exact True.intro | with_reducible assumption | exact unhid (by with_reducible assumption) | rfl | omega | trivial, by first | exact True.intro | with_reducible assumption | exact unhid (by with_reducible assumption) | rfl | omega | trivial, by first | exact True.intro | with_reducible assumption | exact unhid (by with_reducible assumption) | rfl | omega | trivial, by first | exact True.intro | with_reducible assumption | exact unhid (by with_reducible assumption) | rfl | omega | trivial, by first | exact True.intro | with_reducible assumption | exact unhid (by with_reducible assumption) | rfl | omega | trivial, by first | exact True.intro | with_reducible assumption | exact unhid (by with_reducible assumption) | rfl | omega | trivial, by first | exact True.intro | with_reducible assumption | exact unhid (by with_reducible assumption) | rfl | omega | trivial⟩⟩⟩
                            · skip
                              replace c169 := hid c169
                              refine go_ifq PM159 (k := 2) (p1 := 298) (p2 := 286) (L' := [some (.inr (.inr (some 79))), some (.inl v_h73), none]) (st' := []) (w' := (SH, (u2 (u2 dt33 79 15 (dt33 79 13)) 79 13 ((dt33 79 13) + 1)))) rfl (c_eq (a := v_h73) (b := 60) (by first | exact bnd h73r (by decide) (by decide) | exact ⟨by fail, by fail⟩) ⟨by decide, by decide⟩) (fun c182 => ?_) (fun c182 => ?_)
                              · skip
                                refine go_toq PM159 (k := 10) (pc' := 317) (L' := [some (.inr (.inr (some 79))), some (.inl v_h73), some (.inl 1)]) (st' := [.inl (100 + v_h73), .inr (.inr (some 79))]) (w' := (SH, (u2 (u2 dt33 79 15 (dt33 79 13)) 79 13 ((dt33 79 13) + 1)))) rfl ?_
                                have hI183 : InvC (u2 (u2 (u2 dt33 79 15 (dt33 79 13)) 79 13 ((dt33 79 13) + 1)) 79 14 (100 + v_h73)) := InvC_u2 hI79 (lo := -2147483648) (hi := 2147483647) rfl rfl rfl (by omega) (by omega)
                                have hF184 : Fr [79] dt (u2 (u2 (u2 dt33 79 15 (dt33 79 13)) 79 13 ((dt33 79 13) + 1)) 79 14 (100 + v_h73)) := Fr_u2 hF80 (by decide)
                                have w185 : (u2 (u2 (u2 dt33 79 15 (dt33 79 13)) 79 13 ((dt33 79 13) + 1)) 79 14 (100 + v_h73)) 79 13 = (u2 (u2 dt33 79 15 (dt33 79 13)) 79 13 ((dt33 79 13) + 1)) 79 13 := rfl
                                have w186 : (u2 (u2 (u2 dt33 79 15 (dt33 79 13)) 79 13 ((dt33 79 13) + 1)) 79 14 (100 + v_h73)) 79 15 = (u2 (u2 dt33 79 15 (dt33 79 13)) 79 13 ((dt33 79 13) + 1)) 79 15 := rfl
                                have w187 : (u2 (u2 (u2 dt33 79 15 (dt33 79 13)) 79 13 ((dt33 79 13) + 1)) 79 14 (100 + v_h73)) 79 14 = 100 + v_h73 := rfl
                                have w188 : (u2 (u2 (u2 dt33 79 15 (dt33 79 13)) 79 13 ((dt33 79 13) + 1)) 79 14 (100 + v_h73)) 79 16 = (u2 (u2 dt33 79 15 (dt33 79 13)) 79 13 ((dt33 79 13) + 1)) 79 16 := rfl
                                have w189 : (u2 (u2 (u2 dt33 79 15 (dt33 79 13)) 79 13 ((dt33 79 13) + 1)) 79 14 (100 + v_h73)) 79 2 = (u2 (u2 dt33 79 15 (dt33 79 13)) 79 13 ((dt33 79 13) + 1)) 79 2 := rfl
                                have w190 : (u2 (u2 (u2 dt33 79 15 (dt33 79 13)) 79 13 ((dt33 79 13) + 1)) 79 14 (100 + v_h73)) 79 9 = (u2 (u2 dt33 79 15 (dt33 79 13)) 79 13 ((dt33 79 13) + 1)) 79 9 := rfl
                                have w191 : (u2 (u2 (u2 dt33 79 15 (dt33 79 13)) 79 13 ((dt33 79 13) + 1)) 79 14 (100 + v_h73)) 79 10 = (u2 (u2 dt33 79 15 (dt33 79 13)) 79 13 ((dt33 79 13) + 1)) 79 10 := rfl
                                have w192 : (u2 (u2 (u2 dt33 79 15 (dt33 79 13)) 79 13 ((dt33 79 13) + 1)) 79 14 (100 + v_h73)) 79 11 = (u2 (u2 dt33 79 15 (dt33 79 13)) 79 13 ((dt33 79 13) + 1)) 79 11 := rfl
                                have w193 : (u2 (u2 (u2 dt33 79 15 (dt33 79 13)) 79 13 ((dt33 79 13) + 1)) 79 14 (100 + v_h73)) 79 12 = (u2 (u2 dt33 79 15 (dt33 79 13)) 79 13 ((dt33 79 13) + 1)) 79 12 := rfl
                                have w194 : (u2 (u2 (u2 dt33 79 15 (dt33 79 13)) 79 13 ((dt33 79 13) + 1)) 79 14 (100 + v_h73)) 79 20 = (u2 (u2 dt33 79 15 (dt33 79 13)) 79 13 ((dt33 79 13) + 1)) 79 20 := rfl
                                refine go_smpq PM159 (L' := [some (.inr (.inr (some 79))), some (.inl v_h73), some (.inl 1)]) (st' := []) (w' := (SH, (u2 (u2 (u2 dt33 79 15 (dt33 79 13)) 79 13 ((dt33 79 13) + 1)) 79 14 (100 + v_h73)))) rfl rfl (s_pf rfl rfl rfl rfl ⟨by omega, by omega⟩) ?_
                                refine go_retq PM159 (k := 0) (r := none) (w1 := (SH, (u2 (u2 (u2 dt33 79 15 (dt33 79 13)) 79 13 ((dt33 79 13) + 1)) 79 14 (100 + v_h73)))) rfl ?_
                                exact ⟨(u2 (u2 (u2 dt33 79 15 (dt33 79 13)) 79 13 ((dt33 79 13) + 1)) 79 14 (100 + v_h73)), rfl, hI183, hF184, ⟨rfl, ⟨by first | exact True.intro | with_reducible assumption | exact unhid (by with_reducible assumption) | rfl | omega | trivial, by first | exact True.intro | with_reducible assumption | exact unhid (by with_reducible assumption) | rfl | omega | trivial, by first | exact True.intro | with_reducible assumption | exact unhid (by with_reducible assumption) | rfl | omega | trivial, by first | exact True.intro | with_reducible assumption | exact unhid (by with_reducible assumption) | rfl | omega | trivial, by first | exact True.intro | with_reducible assumption | exact unhid (by with_reducible assumption) | rfl | omega | trivial, by first | exact True.intro | with_reducible assumption | exact unhid (by with_reducible assumption) | rfl | omega | trivial, by first | exact True.intro | with_reducible assumption | exact unhid (by with_reducible assumption) | rfl | omega | trivial, by first | exact True.intro | with_reducible assumption | exact unhid (by with_reducible assumption) | rfl | omega | trivial, by first | exact True.intro | with_reducible assumption | exact unhid (by with_reducible assumption) | rfl | omega | trivial⟩⟩⟩
                              · skip
                                replace c182 := hid c182
                                refine go_ifq PM159 (k := 2) (p1 := 298) (p2 := 292) (L' := [some (.inr (.inr (some 79))), some (.inl v_h73), none]) (st' := []) (w' := (SH, (u2 (u2 dt33 79 15 (dt33 79 13)) 79 13 ((dt33 79 13) + 1)))) rfl (c_eq (a := v_h73) (b := 61) (by first | exact bnd h73r (by decide) (by decide) | exact ⟨by fail, by fail⟩) ⟨by decide, by decide⟩) (fun c195 => ?_) (fun c195 => ?_)
                                · skip
                                  refine go_toq PM159 (k := 10) (pc' := 317) (L' := [some (.inr (.inr (some 79))), some (.inl v_h73), some (.inl 1)]) (st' := [.inl (100 + v_h73), .inr (.inr (some 79))]) (w' := (SH, (u2 (u2 dt33 79 15 (dt33 79 13)) 79 13 ((dt33 79 13) + 1)))) rfl ?_
                                  have hI196 : InvC (u2 (u2 (u2 dt33 79 15 (dt33 79 13)) 79 13 ((dt33 79 13) + 1)) 79 14 (100 + v_h73)) := InvC_u2 hI79 (lo := -2147483648) (hi := 2147483647) rfl rfl rfl (by omega) (by omega)
                                  have hF197 : Fr [79] dt (u2 (u2 (u2 dt33 79 15 (dt33 79 13)) 79 13 ((dt33 79 13) + 1)) 79 14 (100 + v_h73)) := Fr_u2 hF80 (by decide)
                                  have w198 : (u2 (u2 (u2 dt33 79 15 (dt33 79 13)) 79 13 ((dt33 79 13) + 1)) 79 14 (100 + v_h73)) 79 13 = (u2 (u2 dt33 79 15 (dt33 79 13)) 79 13 ((dt33 79 13) + 1)) 79 13 := rfl
                                  have w199 : (u2 (u2 (u2 dt33 79 15 (dt33 79 13)) 79 13 ((dt33 79 13) + 1)) 79 14 (100 + v_h73)) 79 15 = (u2 (u2 dt33 79 15 (dt33 79 13)) 79 13 ((dt33 79 13) + 1)) 79 15 := rfl
                                  have w200 : (u2 (u2 (u2 dt33 79 15 (dt33 79 13)) 79 13 ((dt33 79 13) + 1)) 79 14 (100 + v_h73)) 79 14 = 100 + v_h73 := rfl
                                  have w201 : (u2 (u2 (u2 dt33 79 15 (dt33 79 13)) 79 13 ((dt33 79 13) + 1)) 79 14 (100 + v_h73)) 79 16 = (u2 (u2 dt33 79 15 (dt33 79 13)) 79 13 ((dt33 79 13) + 1)) 79 16 := rfl
                                  have w202 : (u2 (u2 (u2 dt33 79 15 (dt33 79 13)) 79 13 ((dt33 79 13) + 1)) 79 14 (100 + v_h73)) 79 2 = (u2 (u2 dt33 79 15 (dt33 79 13)) 79 13 ((dt33 79 13) + 1)) 79 2 := rfl
                                  have w203 : (u2 (u2 (u2 dt33 79 15 (dt33 79 13)) 79 13 ((dt33 79 13) + 1)) 79 14 (100 + v_h73)) 79 9 = (u2 (u2 dt33 79 15 (dt33 79 13)) 79 13 ((dt33 79 13) + 1)) 79 9 := rfl
                                  have w204 : (u2 (u2 (u2 dt33 79 15 (dt33 79 13)) 79 13 ((dt33 79 13) + 1)) 79 14 (100 + v_h73)) 79 10 = (u2 (u2 dt33 79 15 (dt33 79 13)) 79 13 ((dt33 79 13) + 1)) 79 10 := rfl
                                  have w205 : (u2 (u2 (u2 dt33 79 15 (dt33 79 13)) 79 13 ((dt33 79 13) + 1)) 79 14 (100 + v_h73)) 79 11 = (u2 (u2 dt33 79 15 (dt33 79 13)) 79 13 ((dt33 79 13) + 1)) 79 11 := rfl
                                  have w206 : (u2 (u2 (u2 dt33 79 15 (dt33 79 13)) 79 13 ((dt33 79 13) + 1)) 79 14 (100 + v_h73)) 79 12 = (u2 (u2 dt33 79 15 (dt33 79 13)) 79 13 ((dt33 79 13) + 1)) 79 12 := rfl
                                  have w207 : (u2 (u2 (u2 dt33 79 15 (dt33 79 13)) 79 13 ((dt33 79 13) + 1)) 79 14 (100 + v_h73)) 79 20 = (u2 (u2 dt33 79 15 (dt33 79 13)) 79 13 ((dt33 79 13) + 1)) 79 20 := rfl
                                  refine go_smpq PM159 (L' := [some (.inr (.inr (some 79))), some (.inl v_h73), some (.inl 1)]) (st' := []) (w' := (SH, (u2 (u2 (u2 dt33 79 15 (dt33 79 13)) 79 13 ((dt33 79 13) + 1)) 79 14 (100 + v_h73)))) rfl rfl (s_pf rfl rfl rfl rfl ⟨by omega, by omega⟩) ?_
                                  refine go_retq PM159 (k := 0) (r := none) (w1 := (SH, (u2 (u2 (u2 dt33 79 15 (dt33 79 13)) 79 13 ((dt33 79 13) + 1)) 79 14 (100 + v_h73)))) rfl ?_
                                  exact ⟨(u2 (u2 (u2 dt33 79 15 (dt33 79 13)) 79 13 ((dt33 79 13) + 1)) 79 14 (100 + v_h73)), rfl, hI196, hF197, ⟨rfl, ⟨by first | exact True.intro | with_reducible assumption | exact unhid (by with_reducible assumption) | rfl | omega | trivial, by first | exact True.intro | with_reducible assumption | exact unhid (by with_reducible assumption) | rfl | omega | trivial, by first | exact True.intro | with_reducible assumption | exact unhid (by with_reducible assumption) | rfl | omega | trivial, by first | exact True.intro | with_reducible assumption | exact unhid (by with_reducible assumption) | rfl | omega | trivial, by first | exact True.intro | with_reducible assumption | exact unhid (by with_reducible assumption) | rfl | omega | trivial, by first | exact True.intro | with_reducible assumption | exact unhid (by with_reducible assumption) | rfl | omega | trivial, by first | exact True.intro | with_reducible assumption | exact unhid (by with_reducible assumption) | rfl | omega | trivial, by first | exact True.intro | with_reducible assumption | exact unhid (by with_reducible assumption) | rfl | omega | trivial, by first | exact True.intro | with_reducible assumption | exact unhid (by with_reducible assumption) | rfl | omega | trivial⟩⟩⟩
                                · skip
                                  replace c195 := hid c195
                                  refine go_ifq PM159 (k := 2) (p1 := 302) (p2 := 298) (L' := [some (.inr (.inr (some 79))), some (.inl v_h73), none]) (st' := []) (w' := (SH, (u2 (u2 dt33 79 15 (dt33 79 13)) 79 13 ((dt33 79 13) + 1)))) rfl (c_ne (a := v_h73) (b := 62) (by first | exact bnd h73r (by decide) (by decide) | exact ⟨by fail, by fail⟩) ⟨by decide, by decide⟩) (fun c208 => ?_) (fun c208 => ?_)
                                  · skip
                                    replace c208 := hid c208
                                    refine go_toq PM159 (k := 6) (pc' := 317) (L' := [some (.inr (.inr (some 79))), some (.inl v_h73), some (.inl 0)]) (st' := [.inl 1, .inr (.inr (some 79))]) (w' := (SH, (u2 (u2 dt33 79 15 (dt33 79 13)) 79 13 ((dt33 79 13) + 1)))) rfl ?_
                                    have hI209 : InvC (u2 (u2 (u2 dt33 79 15 (dt33 79 13)) 79 13 ((dt33 79 13) + 1)) 79 14 1) := InvC_u2 hI79 (lo := -2147483648) (hi := 2147483647) rfl rfl rfl (by decide) (by decide)
                                    have hF210 : Fr [79] dt (u2 (u2 (u2 dt33 79 15 (dt33 79 13)) 79 13 ((dt33 79 13) + 1)) 79 14 1) := Fr_u2 hF80 (by decide)
                                    have w211 : (u2 (u2 (u2 dt33 79 15 (dt33 79 13)) 79 13 ((dt33 79 13) + 1)) 79 14 1) 79 13 = (u2 (u2 dt33 79 15 (dt33 79 13)) 79 13 ((dt33 79 13) + 1)) 79 13 := rfl
                                    have w212 : (u2 (u2 (u2 dt33 79 15 (dt33 79 13)) 79 13 ((dt33 79 13) + 1)) 79 14 1) 79 15 = (u2 (u2 dt33 79 15 (dt33 79 13)) 79 13 ((dt33 79 13) + 1)) 79 15 := rfl
                                    have w213 : (u2 (u2 (u2 dt33 79 15 (dt33 79 13)) 79 13 ((dt33 79 13) + 1)) 79 14 1) 79 14 = 1 := rfl
                                    have w214 : (u2 (u2 (u2 dt33 79 15 (dt33 79 13)) 79 13 ((dt33 79 13) + 1)) 79 14 1) 79 16 = (u2 (u2 dt33 79 15 (dt33 79 13)) 79 13 ((dt33 79 13) + 1)) 79 16 := rfl
                                    have w215 : (u2 (u2 (u2 dt33 79 15 (dt33 79 13)) 79 13 ((dt33 79 13) + 1)) 79 14 1) 79 2 = (u2 (u2 dt33 79 15 (dt33 79 13)) 79 13 ((dt33 79 13) + 1)) 79 2 := rfl
                                    have w216 : (u2 (u2 (u2 dt33 79 15 (dt33 79 13)) 79 13 ((dt33 79 13) + 1)) 79 14 1) 79 9 = (u2 (u2 dt33 79 15 (dt33 79 13)) 79 13 ((dt33 79 13) + 1)) 79 9 := rfl
                                    have w217 : (u2 (u2 (u2 dt33 79 15 (dt33 79 13)) 79 13 ((dt33 79 13) + 1)) 79 14 1) 79 10 = (u2 (u2 dt33 79 15 (dt33 79 13)) 79 13 ((dt33 79 13) + 1)) 79 10 := rfl
                                    have w218 : (u2 (u2 (u2 dt33 79 15 (dt33 79 13)) 79 13 ((dt33 79 13) + 1)) 79 14 1) 79 11 = (u2 (u2 dt33 79 15 (dt33 79 13)) 79 13 ((dt33 79 13) + 1)) 79 11 := rfl
                                    have w219 : (u2 (u2 (u2 dt33 79 15 (dt33 79 13)) 79 13 ((dt33 79 13) + 1)) 79 14 1) 79 12 = (u2 (u2 dt33 79 15 (dt33 79 13)) 79 13 ((dt33 79 13) + 1)) 79 12 := rfl
                                    have w220 : (u2 (u2 (u2 dt33 79 15 (dt33 79 13)) 79 13 ((dt33 79 13) + 1)) 79 14 1) 79 20 = (u2 (u2 dt33 79 15 (dt33 79 13)) 79 13 ((dt33 79 13) + 1)) 79 20 := rfl
                                    refine go_smpq PM159 (L' := [some (.inr (.inr (some 79))), some (.inl v_h73), some (.inl 0)]) (st' := []) (w' := (SH, (u2 (u2 (u2 dt33 79 15 (dt33 79 13)) 79 13 ((dt33 79 13) + 1)) 79 14 1))) rfl rfl (s_pf rfl rfl rfl rfl ⟨by decide, by decide⟩) ?_
                                    refine go_retq PM159 (k := 0) (r := none) (w1 := (SH, (u2 (u2 (u2 dt33 79 15 (dt33 79 13)) 79 13 ((dt33 79 13) + 1)) 79 14 1))) rfl ?_
                                    exact ⟨(u2 (u2 (u2 dt33 79 15 (dt33 79 13)) 79 13 ((dt33 79 13) + 1)) 79 14 1), rfl, hI209, hF210, ⟨rfl, ⟨by first | exact True.intro | with_reducible assumption | exact unhid (by with_reducible assumption) | rfl | omega | trivial, by first | exact True.intro | with_reducible assumption | exact unhid (by with_reducible assumption) | rfl | (have z_ := unhid c74; omega) | trivial, by first | exact True.intro | with_reducible assumption | exact unhid (by with_reducible assumption) | rfl | omega | trivial, by first | exact True.intro | with_reducible assumption | exact unhid (by with_reducible assumption) | rfl | omega | trivial, by first | exact True.intro | with_reducible assumption | exact unhid (by with_reducible assumption) | rfl | omega | trivial, by first | exact True.intro | with_reducible assumption | exact unhid (by with_reducible assumption) | rfl | omega | trivial, by first | exact True.intro | with_reducible assumption | exact unhid (by with_reducible assumption) | rfl | omega | trivial, by first | exact True.intro | with_reducible assumption | exact unhid (by with_reducible assumption) | rfl | omega | trivial, by first | exact True.intro | with_reducible assumption | exact unhid (by with_reducible assumption) | rfl | omega | trivial⟩⟩⟩
                                  · skip
                                    refine go_toq PM159 (k := 10) (pc' := 317) (L' := [some (.inr (.inr (some 79))), some (.inl v_h73), some (.inl 1)]) (st' := [.inl (100 + v_h73), .inr (.inr (some 79))]) (w' := (SH, (u2 (u2 dt33 79 15 (dt33 79 13)) 79 13 ((dt33 79 13) + 1)))) rfl ?_
                                    have hI221 : InvC (u2 (u2 (u2 dt33 79 15 (dt33 79 13)) 79 13 ((dt33 79 13) + 1)) 79 14 (100 + v_h73)) := InvC_u2 hI79 (lo := -2147483648) (hi := 2147483647) rfl rfl rfl (by omega) (by omega)
                                    have hF222 : Fr [79] dt (u2 (u2 (u2 dt33 79 15 (dt33 79 13)) 79 13 ((dt33 79 13) + 1)) 79 14 (100 + v_h73)) := Fr_u2 hF80 (by decide)
                                    have w223 : (u2 (u2 (u2 dt33 79 15 (dt33 79 13)) 79 13 ((dt33 79 13) + 1)) 79 14 (100 + v_h73)) 79 13 = (u2 (u2 dt33 79 15 (dt33 79 13)) 79 13 ((dt33 79 13) + 1)) 79 13 := rfl
                                    have w224 : (u2 (u2 (u2 dt33 79 15 (dt33 79 13)) 79 13 ((dt33 79 13) + 1)) 79 14 (100 + v_h73)) 79 15 = (u2 (u2 dt33 79 15 (dt33 79 13)) 79 13 ((dt33 79 13) + 1)) 79 15 := rfl
                                    have w225 : (u2 (u2 (u2 dt33 79 15 (dt33 79 13)) 79 13 ((dt33 79 13) + 1)) 79 14 (100 + v_h73)) 79 14 = 100 + v_h73 := rfl
                                    have w226 : (u2 (u2 (u2 dt33 79 15 (dt33 79 13)) 79 13 ((dt33 79 13) + 1)) 79 14 (100 + v_h73)) 79 16 = (u2 (u2 dt33 79 15 (dt33 79 13)) 79 13 ((dt33 79 13) + 1)) 79 16 := rfl
                                    have w227 : (u2 (u2 (u2 dt33 79 15 (dt33 79 13)) 79 13 ((dt33 79 13) + 1)) 79 14 (100 + v_h73)) 79 2 = (u2 (u2 dt33 79 15 (dt33 79 13)) 79 13 ((dt33 79 13) + 1)) 79 2 := rfl
                                    have w228 : (u2 (u2 (u2 dt33 79 15 (dt33 79 13)) 79 13 ((dt33 79 13) + 1)) 79 14 (100 + v_h73)) 79 9 = (u2 (u2 dt33 79 15 (dt33 79 13)) 79 13 ((dt33 79 13) + 1)) 79 9 := rfl
                                    have w229 : (u2 (u2 (u2 dt33 79 15 (dt33 79 13)) 79 13 ((dt33 79 13) + 1)) 79 14 (100 + v_h73)) 79 10 = (u2 (u2 dt33 79 15 (dt33 79 13)) 79 13 ((dt33 79 13) + 1)) 79 10 := rfl
                                    have w230 : (u2 (u2 (u2 dt33 79 15 (dt33 79 13)) 79 13 ((dt33 79 13) + 1)) 79 14 (100 + v_h73)) 79 11 = (u2 (u2 dt33 79 15 (dt33 79 13)) 79 13 ((dt33 79 13) + 1)) 79 11 := rfl
                                    have w231 : (u2 (u2 (u2 dt33 79 15 (dt33 79 13)) 79 13 ((dt33 79 13) + 1)) 79 14 (100 + v_h73)) 79 12 = (u2 (u2 dt33 79 15 (dt33 79 13)) 79 13 ((dt33 79 13) + 1)) 79 12 := rfl
                                    have w232 : (u2 (u2 (u2 dt33 79 15 (dt33 79 13)) 79 13 ((dt33 79 13) + 1)) 79 14 (100 + v_h73)) 79 20 = (u2 (u2 dt33 79 15 (dt33 79 13)) 79 13 ((dt33 79 13) + 1)) 79 20 := rfl
                                    refine go_smpq PM159 (L' := [some (.inr (.inr (some 79))), some (.inl v_h73), some (.inl 1)]) (st' := []) (w' := (SH, (u2 (u2 (u2 dt33 79 15 (dt33 79 13)) 79 13 ((dt33 79 13) + 1)) 79 14 (100 + v_h73)))) rfl rfl (s_pf rfl rfl rfl rfl ⟨by omega, by omega⟩) ?_
                                    refine go_retq PM159 (k := 0) (r := none) (w1 := (SH, (u2 (u2 (u2 dt33 79 15 (dt33 79 13)) 79 13 ((dt33 79 13) + 1)) 79 14 (100 + v_h73)))) rfl ?_
                                    exact ⟨(u2 (u2 (u2 dt33 79 15 (dt33 79 13)) 79 13 ((dt33 79 13) + 1)) 79 14 (100 + v_h73)), rfl, hI221, hF222, ⟨rfl, ⟨by first | exact True.intro | with_reducible assumption | exact unhid (by with_reducible assumption) | rfl | omega | trivial, by first | exact True.intro | with_reducible assumption | exact unhid (by with_reducible assumption) | rfl | omega | trivial, by first | exact True.intro | with_reducible assumption | exact unhid (by with_reducible assumption) | rfl | omega | trivial, by first | exact True.intro | with_reducible assumption | exact unhid (by with_reducible assumption) | rfl | omega | trivial, by first | exact True.intro | with_reducible assumption | exact unhid (by with_reducible assumption) | rfl | omega | trivial, by first | exact True.intro | with_reducible assumption | exact unhid (by with_reducible assumption) | rfl | omega | trivial, by first | exact True.intro | with_reducible assumption | exact unhid (by with_reducible assumption) | rfl | omega | trivial, by first | exact True.intro | with_reducible assumption | exact unhid (by with_reducible assumption) | rfl | omega | trivial, by first | exact True.intro | with_reducible assumption | exact unhid (by with_reducible assumption) | rfl | omega | trivial⟩⟩⟩
              · skip
                replace c78 := hid c78
                refine go_toq PM159 (k := 2) (pc' := 137) (L' := [some (.inr (.inr (some 79))), some (.inl v_h73), none]) (st' := [.inl 0, .inr (.inr (some 79))]) (w' := (SH, (u2 dt33 79 15 (dt33 79 13)))) rfl ?_
                have hI233 : InvC (u2 (u2 dt33 79 15 (dt33 79 13)) 79 16 0) := InvC_u2 hI61 (lo := 0) (hi := 9999) rfl rfl rfl (by decide) (by decide)
                have hF234 : Fr [79] dt (u2 (u2 dt33 79 15 (dt33 79 13)) 79 16 0) := Fr_u2 hF62 (by decide)
                have w235 : (u2 (u2 dt33 79 15 (dt33 79 13)) 79 16 0) 79 13 = (u2 dt33 79 15 (dt33 79 13)) 79 13 := rfl
                have w236 : (u2 (u2 dt33 79 15 (dt33 79 13)) 79 16 0) 79 15 = (u2 dt33 79 15 (dt33 79 13)) 79 15 := rfl
                have w237 : (u2 (u2 dt33 79 15 (dt33 79 13)) 79 16 0) 79 14 = (u2 dt33 79 15 (dt33 79 13)) 79 14 := rfl
                have w238 : (u2 (u2 dt33 79 15 (dt33 79 13)) 79 16 0) 79 16 = 0 := rfl
                have w239 : (u2 (u2 dt33 79 15 (dt33 79 13)) 79 16 0) 79 2 = (u2 dt33 79 15 (dt33 79 13)) 79 2 := rfl
                have w240 : (u2 (u2 dt33 79 15 (dt33 79 13)) 79 16 0) 79 9 = (u2 dt33 79 15 (dt33 79 13)) 79 9 := rfl
                have w241 : (u2 (u2 dt33 79 15 (dt33 79 13)) 79 16 0) 79 10 = (u2 dt33 79 15 (dt33 79 13)) 79 10 := rfl
                have w242 : (u2 (u2 dt33 79 15 (dt33 79 13)) 79 16 0) 79 11 = (u2 dt33 79 15 (dt33 79 13)) 79 11 := rfl
                have w243 : (u2 (u2 dt33 79 15 (dt33 79 13)) 79 16 0) 79 12 = (u2 dt33 79 15 (dt33 79 13)) 79 12 := rfl
                have w244 : (u2 (u2 dt33 79 15 (dt33 79 13)) 79 16 0) 79 20 = (u2 dt33 79 15 (dt33 79 13)) 79 20 := rfl
                refine go_smpq PM159 (L' := [some (.inr (.inr (some 79))), some (.inl v_h73), none]) (st' := []) (w' := (SH, (u2 (u2 dt33 79 15 (dt33 79 13)) 79 16 0))) rfl rfl (s_pf rfl rfl rfl rfl ⟨by decide, by decide⟩) ?_
                have loop309 : ∀ (k_ : Nat) (dt290 : Nat → Nat → Int) (hI291 : InvC dt290) (hF292 : Fr [79] dt dt290) (i293 : (48 ≤ SV (dt 85) (dt290 79 12) (dt290 79 13) ∧ SV (dt 85) (dt290 79 12) (dt290 79 13) ≤ 57) ∨ dt290 79 15 + 1 ≤ dt290 79 13) (i294 : dt290 79 15 ≤ dt290 79 13) (i295 : dt 79 13 ≤ dt290 79 15) (i296 : dt290 79 13 ≤ 500) (i297 : 0 ≤ dt290 79 16) (i298 : dt290 79 13 = dt290 79 15 → dt290 79 16 = 0) (i299 : dt290 79 13 = dt290 79 15 + 1 → dt290 79 16 ≤ 9) (i300 : dt290 79 13 = dt290 79 15 + 2 → dt290 79 16 ≤ 99) (i301 : dt290 79 13 = dt290 79 15 + 3 → dt290 79 16 ≤ 999) (i302 : dt290 79 16 ≤ 9999) (i303 : dt290 79 2 = dt 79 2) (i304 : dt290 79 9 = dt 79 9) (i305 : dt290 79 10 = dt 79 10) (i306 : dt290 79 11 = dt 79 11) (i307 : dt290 79 12 = dt 79 12) (i308 : dt290 79 20 = dt 79 20), (502 - dt290 79 13).toNat < k_ → GO (am_XX L xs sio) (d + 6) 159 140 [some (.inr (.inr (some 79))), none, none] [] (SH, dt290) (fun r w2 => ∃ dt2 : Nat → Nat → Int, w2 = (SH, dt2) ∧ InvC dt2 ∧ Fr [79] dt dt2 ∧ ((r = none ∧ (dt 79 13 ≤ dt2 79 15) ∧ ((¬ dt2 79 14 = 0 → dt2 79 15 + 1 ≤ dt2 79 13) ∧ dt2 79 13 ≤ 500) ∧ (dt2 79 15 ≤ dt2 79 13) ∧ (dt2 79 2 = dt 79 2) ∧ (dt2 79 9 = dt 79 9) ∧ (dt2 79 10 = dt 79 10) ∧ (dt2 79 11 = dt 79 11) ∧ (dt2 79 12 = dt 79 12) ∧ (dt2 79 20 = dt 79 20)))) := by
                  intro k_
                  induction k_ with
                  | zero => intro dt290 hI291 hF292 i293 i294 i295 i296 i297 i298 i299 i300 i301 i302 i303 i304 i305 i306 i307 i308 hm; exact absurd hm (Nat.not_lt_zero _)
                  | succ k_ ih_loop309 =>
                    intro dt290 hI291 hF292 i293 i294 i295 i296 i297 i298 i299 i300 i301 i302 i303 i304 i305 i306 i307 i308 hm
                    replace i293 := hid i293
                    replace i298 := hid i298
                    replace i299 := hid i299
                    replace i300 := hid i300
                    replace i301 := hid i301
                    have r310 : 0 ≤ dt290 79 13 ∧ dt290 79 13 ≤ 501 := InvC_get hI291 79 13 rfl rfl
                    refine go_toq PM159 (k := 3) (pc' := 145) (L' := [some (.inr (.inr (some 79))), none, none]) (st' := [.inl (dt290 79 13), .inr (.inr (some 79))]) (w' := (SH, dt290)) rfl ?_
                    have v18_ := hid (And.intro (unhid i293) (And.intro (unhid i298) (And.intro (unhid i299) (And.intro (unhid i300) (unhid i301)))))
                    refine go_callq PM159 PM153 (Q' := _) rfl rfl rfl rfl (sp_X6_see L xs sio (d + 5) dt290 hI291  (dt290 79 13) (by first | exact bnd r310 (by decide) (by decide) | exact ⟨by fail, by fail⟩) ) ?_
                    rintro _ _ ⟨rfl, h311⟩
                    refine ⟨rfl, ?_⟩
                    rcases h311 with ⟨v_h311, rfl, h311r, h311⟩
                    rw [show dt290 85 = dt 85 from funext (hF292 85 (by decide))] at h311
                    refine go_callq PM159 PM155 (Q' := _) rfl rfl rfl rfl (sp_X6_isDigit L xs sio (d + 4) dt290 hI291  v_h311 (by first | exact bnd h311r (by decide) (by decide) | exact ⟨by fail, by fail⟩) ) ?_
                    rintro _ _ ⟨rfl, h312⟩
                    refine ⟨rfl, ?_⟩
                    rcases h312 with ⟨v_h312, rfl, h312r, h312⟩
                    refine go_ifq PM159 (k := 0) (p1 := 203) (p2 := 154) (L' := [some (.inr (.inr (some 79))), none, none]) (st' := []) (w' := (SH, dt290)) rfl (z_eq (a := v_h312) (by first | exact bnd h312r (by decide) (by decide) | exact ⟨by fail, by fail⟩)) (fun c313 => ?_) (fun c313 => ?_)
                    · skip
                      have r314 : 0 ≤ dt290 79 15 ∧ dt290 79 15 ≤ 500 := InvC_get hI291 79 15 rfl rfl
                      refine go_ifq PM159 (k := 7) (p1 := 221) (p2 := 217) (L' := [some (.inr (.inr (some 79))), none, none]) (st' := [.inr (.inr (some 79))]) (w' := (SH, dt290)) rfl (c_ge (a := (dt290 79 13) - (dt290 79 15)) (b := 5) ⟨by omega, by omega⟩ ⟨by decide, by decide⟩) (fun c315 => ?_) (fun c315 => ?_)
                      · skip
                        refine go_toq PM159 (k := 1) (pc' := 222) (L' := [some (.inr (.inr (some 79))), none, none]) (st' := [.inl 1, .inr (.inr (some 79))]) (w' := (SH, dt290)) rfl ?_
                        have hI316 : InvC (u2 dt290 79 14 1) := InvC_u2 hI291 (lo := -2147483648) (hi := 2147483647) rfl rfl rfl (by decide) (by decide)
                        have hF317 : Fr [79] dt (u2 dt290 79 14 1) := Fr_u2 hF292 (by decide)
                        have w318 : (u2 dt290 79 14 1) 79 13 = dt290 79 13 := rfl
                        have w319 : (u2 dt290 79 14 1) 79 15 = dt290 79 15 := rfl
                        have w320 : (u2 dt290 79 14 1) 79 14 = 1 := rfl
                        have w321 : (u2 dt290 79 14 1) 79 16 = dt290 79 16 := rfl
                        have w322 : (u2 dt290 79 14 1) 79 2 = dt290 79 2 := rfl
                        have w323 : (u2 dt290 79 14 1) 79 9 = dt290 79 9 := rfl
                        have w324 : (u2 dt290 79 14 1) 79 10 = dt290 79 10 := rfl
                        have w325 : (u2 dt290 79 14 1) 79 11 = dt290 79 11 := rfl
                        have w326 : (u2 dt290 79 14 1) 79 12 = dt290 79 12 := rfl
                        have w327 : (u2 dt290 79 14 1) 79 20 = dt290 79 20 := rfl
                        refine go_smpq PM159 (L' := [some (.inr (.inr (some 79))), none, none]) (st' := []) (w' := (SH, (u2 dt290 79 14 1))) rfl rfl (s_pf rfl rfl rfl rfl ⟨by decide, by decide⟩) ?_
                        refine go_retq PM159 (k := 1) (r := none) (w1 := (SH, (u2 dt290 79 14 1))) rfl ?_
                        exact ⟨(u2 dt290 79 14 1), rfl, hI316, hF317, ⟨rfl, ⟨by first | exact True.intro | with_reducible assumption | exact unhid (by with_reducible assumption) | rfl | omega | trivial, by first | exact True.intro | with_reducible assumption | exact unhid (by with_reducible assumption) | rfl | omega | trivial, by first | exact True.intro | with_reducible assumption | exact unhid (by with_reducible assumption) | rfl | omega | trivial, by first | exact True.intro | with_reducible assumption | exact unhid (by with_reducible assumption) | rfl | omega | trivial, by first | exact True.intro | with_reducible assumption | exact unhid (by with_reducible assumption) | rfl | omega | trivial, by first | exact True.intro | with_reducible assumption | exact unhid (by with_reducible assumption) | rfl | omega | trivial, by first | exact True.intro | with_reducible assumption | exact unhid (by with_reducible assumption) | rfl | omega | trivial, by first | exact True.intro | with_reducible assumption | exact unhid (by with_reducible assumption) | rfl | omega | trivial, by first | exact True.intro | with_reducible assumption | exact unhid (by with_reducible assumption) | rfl | omega | trivial⟩⟩⟩
                      · skip
                        refine go_toq PM159 (k := 2) (pc' := 222) (L' := [some (.inr (.inr (some 79))), none, none]) (st' := [.inl 2, .inr (.inr (some 79))]) (w' := (SH, dt290)) rfl ?_
                        have hI328 : InvC (u2 dt290 79 14 2) := InvC_u2 hI291 (lo := -2147483648) (hi := 2147483647) rfl rfl rfl (by decide) (by decide)
                        have hF329 : Fr [79] dt (u2 dt290 79 14 2) := Fr_u2 hF292 (by decide)
                        have w330 : (u2 dt290 79 14 2) 79 13 = dt290 79 13 := rfl
                        have w331 : (u2 dt290 79 14 2) 79 15 = dt290 79 15 := rfl
                        have w332 : (u2 dt290 79 14 2) 79 14 = 2 := rfl
                        have w333 : (u2 dt290 79 14 2) 79 16 = dt290 79 16 := rfl
                        have w334 : (u2 dt290 79 14 2) 79 2 = dt290 79 2 := rfl
                        have w335 : (u2 dt290 79 14 2) 79 9 = dt290 79 9 := rfl
                        have w336 : (u2 dt290 79 14 2) 79 10 = dt290 79 10 := rfl
                        have w337 : (u2 dt290 79 14 2) 79 11 = dt290 79 11 := rfl
                        have w338 : (u2 dt290 79 14 2) 79 12 = dt290 79 12 := rfl
                        have w339 : (u2 dt290 79 14 2) 79 20 = dt290 79 20 := rfl
                        refine go_smpq PM159 (L' := [some (.inr (.inr (some 79))), none, none]) (st' := []) (w' := (SH, (u2 dt290 79 14 2))) rfl rfl (s_pf rfl rfl rfl rfl ⟨by decide, by decide⟩) ?_
                        refine go_retq PM159 (k := 1) (r := none) (w1 := (SH, (u2 dt290 79 14 2))) rfl ?_
                        exact ⟨(u2 dt290 79 14 2), rfl, hI328, hF329, ⟨rfl, ⟨by first | exact True.intro | with_reducible assumption | exact unhid (by with_reducible assumption) | rfl | omega | trivial, by first | exact True.intro | with_reducible assumption | exact unhid (by with_reducible assumption) | rfl | (have z_ := unhid i293; omega) | trivial, by first | exact True.intro | with_reducible assumption | exact unhid (by with_reducible assumption) | rfl | omega | trivial, by first | exact True.intro | with_reducible assumption | exact unhid (by with_reducible assumption) | rfl | omega | trivial, by first | exact True.intro | with_reducible assumption | exact unhid (by with_reducible assumption) | rfl | omega | trivial, by first | exact True.intro | with_reducible assumption | exact unhid (by with_reducible assumption) | rfl | omega | trivial, by first | exact True.intro | with_reducible assumption | exact unhid (by with_reducible assumption) | rfl | omega | trivial, by first | exact True.intro | with_reducible assumption | exact unhid (by with_reducible assumption) | rfl | omega | trivial, by first | exact True.intro | with_reducible assumption | exact unhid (by with_reducible assumption) | rfl | omega | trivial⟩⟩⟩
                    · skip
                      replace c313 := hid c313
                      have r340 : 0 ≤ dt290 79 15 ∧ dt290 79 15 ≤ 500 := InvC_get hI291 79 15 rfl rfl
                      have u19_ := hid (And.intro (unhid c46) (And.intro (unhid c60) (And.intro (unhid c74) (And.intro (unhid c78) (And.intro (unhid i293) (And.intro (unhid i298) (And.intro (unhid i299) (And.intro (unhid i300) (And.intro (unhid i301) (unhid c313))))))))))
                      refine go_ifq PM159 (k := 6) (p1 := 190) (p2 := 167) (L' := [some (.inr (.inr (some 79))), none, none]) (st' := []) (w' := (SH, dt290)) rfl (c_ge (a := dt290 79 13) (b := (dt290 79 15) + 4) (by first | exact bnd r310 (by decide) (by decide) | exact ⟨by fail, by fail⟩) (by first | exact bndp r340 (by decide) (by decide) | exact ⟨by fail, by fail⟩)) (fun c341 => ?_) (fun c341 => ?_)
                      · skip
                        refine go_toq PM159 (k := 5) (pc' := 197) (L' := [some (.inr (.inr (some 79))), none, none]) (st' := [.inl ((dt290 79 13) + 1), .inr (.inr (some 79))]) (w' := (SH, dt290)) rfl ?_
                        have hI342 : InvC (u2 dt290 79 13 ((dt290 79 13) + 1)) := InvC_u2 hI291 (lo := 0) (hi := 501) rfl rfl rfl (by omega) (by omega)
                        have hF343 : Fr [79] dt (u2 dt290 79 13 ((dt290 79 13) + 1)) := Fr_u2 hF292 (by decide)
                        have w344 : (u2 dt290 79 13 ((dt290 79 13) + 1)) 79 13 = (dt290 79 13) + 1 := rfl
                        have w345 : (u2 dt290 79 13 ((dt290 79 13) + 1)) 79 15 = dt290 79 15 := rfl
                        have w346 : (u2 dt290 79 13 ((dt290 79 13) + 1)) 79 14 = dt290 79 14 := rfl
                        have w347 : (u2 dt290 79 13 ((dt290 79 13) + 1)) 79 16 = dt290 79 16 := rfl
                        have w348 : (u2 dt290 79 13 ((dt290 79 13) + 1)) 79 2 = dt290 79 2 := rfl
                        have w349 : (u2 dt290 79 13 ((dt290 79 13) + 1)) 79 9 = dt290 79 9 := rfl
                        have w350 : (u2 dt290 79 13 ((dt290 79 13) + 1)) 79 10 = dt290 79 10 := rfl
                        have w351 : (u2 dt290 79 13 ((dt290 79 13) + 1)) 79 11 = dt290 79 11 := rfl
                        have w352 : (u2 dt290 79 13 ((dt290 79 13) + 1)) 79 12 = dt290 79 12 := rfl
                        have w353 : (u2 dt290 79 13 ((dt290 79 13) + 1)) 79 20 = dt290 79 20 := rfl
                        refine go_smpq PM159 (L' := [some (.inr (.inr (some 79))), none, none]) (st' := []) (w' := (SH, (u2 dt290 79 13 ((dt290 79 13) + 1)))) rfl rfl (s_pf rfl rfl rfl rfl (by first | exact bndp r310 (by decide) (by decide) | exact ⟨by fail, by fail⟩)) ?_
                        refine go_toq PM159 (k := 1) (pc' := 140) (L' := [some (.inr (.inr (some 79))), none, none]) (st' := []) (w' := (SH, (u2 dt290 79 13 ((dt290 79 13) + 1)))) rfl ?_
                        exact GO.le (ih_loop309 (u2 dt290 79 13 ((dt290 79 13) + 1)) hI342 hF343 (by first | omega | (have t_ : 48 ≤ SV (dt 85) (dt290 79 12) (dt290 79 13) ∧ SV (dt 85) (dt290 79 12) (dt290 79 13) ≤ 57 := (by fail); exact Or.inl t_)) (by omega) (by omega) (by (have z_ := unhid c313; omega)) (by omega) (by omega) (by omega) (by omega) (by omega) (by omega) (by omega) (by omega) (by omega) (by omega) (by omega) (by omega) (by omega)) ⟨.inl rfl, .inl rfl, .inl rfl, trivial⟩
                      · skip
                        have r354 : 0 ≤ dt290 79 16 ∧ dt290 79 16 ≤ 9999 := InvC_get hI291 79 16 rfl rfl
                        refine go_toq PM159 (k := 8) (pc' := 180) (L' := [some (.inr (.inr (some 79))), none, none]) (st' := [.inl (dt290 79 13), .inr (.inr (some 79)), .inl (10 * (dt290 79 16)), .inr (.inr (some 79))]) (w' := (SH, dt290)) rfl ?_
                        refine go_callq PM159 PM153 (Q' := _) rfl rfl rfl rfl (sp_X6_see L xs sio (d + 5) dt290 hI291  (dt290 79 13) (by first | exact bnd r310 (by decide) (by decide) | exact bndd r310 c341 (by decide) (by decide) | exact ⟨by fail, by fail⟩) ) ?_
                        rintro _ _ ⟨rfl, h355⟩
                        refine ⟨rfl, ?_⟩
                        rcases h355 with ⟨v_h355, rfl, h355r, h355⟩
                        rw [show dt290 85 = dt 85 from funext (hF292 85 (by decide))] at h355
                        refine go_toq PM159 (k := 3) (pc' := 187) (L' := [some (.inr (.inr (some 79))), none, none]) (st' := [.inl (((10 * (dt290 79 16)) + v_h355) - 48), .inr (.inr (some 79))]) (w' := (SH, dt290)) rfl ?_
                        have hI356 : InvC (u2 dt290 79 16 (((10 * (dt290 79 16)) + v_h355) - 48)) := InvC_u2 hI291 (lo := 0) (hi := 9999) rfl rfl rfl (by (have z_ := unhid c313; omega)) (by (have z_ := unhid u19_; omega))
                        have hF357 : Fr [79] dt (u2 dt290 79 16 (((10 * (dt290 79 16)) + v_h355) - 48)) := Fr_u2 hF292 (by decide)
                        have w358 : (u2 dt290 79 16 (((10 * (dt290 79 16)) + v_h355) - 48)) 79 13 = dt290 79 13 := rfl
                        have w359 : (u2 dt290 79 16 (((10 * (dt290 79 16)) + v_h355) - 48)) 79 15 = dt290 79 15 := rfl
                        have w360 : (u2 dt290 79 16 (((10 * (dt290 79 16)) + v_h355) - 48)) 79 14 = dt290 79 14 := rfl
                        have w361 : (u2 dt290 79 16 (((10 * (dt290 79 16)) + v_h355) - 48)) 79 16 = ((10 * (dt290 79 16)) + v_h355) - 48 := rfl
                        have w362 : (u2 dt290 79 16 (((10 * (dt290 79 16)) + v_h355) - 48)) 79 2 = dt290 79 2 := rfl
                        have w363 : (u2 dt290 79 16 (((10 * (dt290 79 16)) + v_h355) - 48)) 79 9 = dt290 79 9 := rfl
                        have w364 : (u2 dt290 79 16 (((10 * (dt290 79 16)) + v_h355) - 48)) 79 10 = dt290 79 10 := rfl
                        have w365 : (u2 dt290 79 16 (((10 * (dt290 79 16)) + v_h355) - 48)) 79 11 = dt290 79 11 := rfl
                        have w366 : (u2 dt290 79 16 (((10 * (dt290 79 16)) + v_h355) - 48)) 79 12 = dt290 79 12 := rfl
                        have w367 : (u2 dt290 79 16 (((10 * (dt290 79 16)) + v_h355) - 48)) 79 20 = dt290 79 20 := rfl
                        refine go_smpq PM159 (L' := [some (.inr (.inr (some 79))), none, none]) (st' := []) (w' := (SH, (u2 dt290 79 16 (((10 * (dt290 79 16)) + v_h355) - 48)))) rfl rfl (s_pf rfl rfl rfl rfl ⟨by omega, by omega⟩) ?_
                        refine go_toq PM159 (k := 5) (pc' := 197) (L' := [some (.inr (.inr (some 79))), none, none]) (st' := [.inl ((dt290 79 13) + 1), .inr (.inr (some 79))]) (w' := (SH, (u2 dt290 79 16 (((10 * (dt290 79 16)) + v_h355) - 48)))) rfl ?_
                        have hI368 : InvC (u2 (u2 dt290 79 16 (((10 * (dt290 79 16)) + v_h355) - 48)) 79 13 ((dt290 79 13) + 1)) := InvC_u2 hI356 (lo := 0) (hi := 501) rfl rfl rfl (by omega) (by omega)
                        have hF369 : Fr [79] dt (u2 (u2 dt290 79 16 (((10 * (dt290 79 16)) + v_h355) - 48)) 79 13 ((dt290 79 13) + 1)) := Fr_u2 hF357 (by decide)
                        have w370 : (u2 (u2 dt290 79 16 (((10 * (dt290 79 16)) + v_h355) - 48)) 79 13 ((dt290 79 13) + 1)) 79 13 = (dt290 79 13) + 1 := rfl
                        have w371 : (u2 (u2 dt290 79 16 (((10 * (dt290 79 16)) + v_h355) - 48)) 79 13 ((dt290 79 13) + 1)) 79 15 = (u2 dt290 79 16 (((10 * (dt290 79 16)) + v_h355) - 48)) 79 15 := rfl
                        have w372 : (u2 (u2 dt290 79 16 (((10 * (dt290 79 16)) + v_h355) - 48)) 79 13 ((dt290 79 13) + 1)) 79 14 = (u2 dt290 79 16 (((10 * (dt290 79 16)) + v_h355) - 48)) 79 14 := rfl
                        have w373 : (u2 (u2 dt290 79 16 (((10 * (dt290 79 16)) + v_h355) - 48)) 79 13 ((dt290 79 13) + 1)) 79 16 = (u2 dt290 79 16 (((10 * (dt290 79 16)) + v_h355) - 48)) 79 16 := rfl
                        have w374 : (u2 (u2 dt290 79 16 (((10 * (dt290 79 16)) + v_h355) - 48)) 79 13 ((dt290 79 13) + 1)) 79 2 = (u2 dt290 79 16 (((10 * (dt290 79 16)) + v_h355) - 48)) 79 2 := rfl
                        have w375 : (u2 (u2 dt290 79 16 (((10 * (dt290 79 16)) + v_h355) - 48)) 79 13 ((dt290 79 13) + 1)) 79 9 = (u2 dt290 79 16 (((10 * (dt290 79 16)) + v_h355) - 48)) 79 9 := rfl
                        have w376 : (u2 (u2 dt290 79 16 (((10 * (dt290 79 16)) + v_h355) - 48)) 79 13 ((dt290 79 13) + 1)) 79 10 = (u2 dt290 79 16 (((10 * (dt290 79 16)) + v_h355) - 48)) 79 10 := rfl
                        have w377 : (u2 (u2 dt290 79 16 (((10 * (dt290 79 16)) + v_h355) - 48)) 79 13 ((dt290 79 13) + 1)) 79 11 = (u2 dt290 79 16 (((10 * (dt290 79 16)) + v_h355) - 48)) 79 11 := rfl
                        have w378 : (u2 (u2 dt290 79 16 (((10 * (dt290 79 16)) + v_h355) - 48)) 79 13 ((dt290 79 13) + 1)) 79 12 = (u2 dt290 79 16 (((10 * (dt290 79 16)) + v_h355) - 48)) 79 12 := rfl
                        have w379 : (u2 (u2 dt290 79 16 (((10 * (dt290 79 16)) + v_h355) - 48)) 79 13 ((dt290 79 13) + 1)) 79 20 = (u2 dt290 79 16 (((10 * (dt290 79 16)) + v_h355) - 48)) 79 20 := rfl
                        refine go_smpq PM159 (L' := [some (.inr (.inr (some 79))), none, none]) (st' := []) (w' := (SH, (u2 (u2 dt290 79 16 (((10 * (dt290 79 16)) + v_h355) - 48)) 79 13 ((dt290 79 13) + 1)))) rfl rfl (s_pf rfl rfl rfl rfl (by first | exact bndp r310 (by decide) (by decide) | exact ⟨by fail, by fail⟩)) ?_
                        refine go_toq PM159 (k := 1) (pc' := 140) (L' := [some (.inr (.inr (some 79))), none, none]) (st' := []) (w' := (SH, (u2 (u2 dt290 79 16 (((10 * (dt290 79 16)) + v_h355) - 48)) 79 13 ((dt290 79 13) + 1)))) rfl ?_
                        exact GO.le (ih_loop309 (u2 (u2 dt290 79 16 (((10 * (dt290 79 16)) + v_h355) - 48)) 79 13 ((dt290 79 13) + 1)) hI368 hF369 (by first | omega | (have t_ : 48 ≤ SV (dt 85) (dt290 79 12) (dt290 79 13) ∧ SV (dt 85) (dt290 79 12) (dt290 79 13) ≤ 57 := (by fail); exact Or.inl t_)) (by omega) (by omega) (by (have z_ := unhid c313; omega)) (by (have z_ := unhid c313; omega)) (by omega) (by (have z_ := unhid v18_; omega)) (by (have z_ := unhid u19_; omega)) (by (have z_ := unhid u19_; omega)) (by (have z_ := unhid u19_; omega)) (by omega) (by omega) (by omega) (by omega) (by omega) (by omega) (by omega)) ⟨.inl rfl, .inl rfl, .inl rfl, trivial⟩
                exact GO.le (loop309 _ (u2 (u2 dt33 79 15 (dt33 79 13)) 79 16 0) hI233 hF234 (by first | fail | (have t_ : 48 ≤ SV (dt 85) ((u2 dt33 79 15 (dt33 79 13)) 79 12) (dt33 79 13) ∧ SV (dt 85) ((u2 dt33 79 15 (dt33 79 13)) 79 12) (dt33 79 13) ≤ 57 := (by (have z_ := unhid c78; omega)); exact Or.inl t_)) (by omega) (by omega) (by omega) (by omega) (by omega) (by omega) (by omega) (by omega) (by omega) (by omega) (by omega) (by omega) (by omega) (by omega) (by omega) (Nat.lt_succ_self _)) ⟨.inl rfl, .inr ⟨rfl, trivial⟩, .inl rfl, trivial⟩
            · skip
              replace c76 := hid c76
              have loop410 : ∀ (k_ : Nat) (dt397 : Nat → Nat → Int) (hI398 : InvC dt397) (hF399 : Fr [79] dt dt397) (i400 : ((97 ≤ SV (dt 85) (dt397 79 12) (dt397 79 13) ∧ SV (dt 85) (dt397 79 12) (dt397 79 13) ≤ 122) ∨ (65 ≤ SV (dt 85) (dt397 79 12) (dt397 79 13) ∧ SV (dt 85) (dt397 79 12) (dt397 79 13) ≤ 90)) ∨ dt397 79 15 + 1 ≤ dt397 79 13) (i401 : dt397 79 15 ≤ dt397 79 13) (i402 : dt 79 13 ≤ dt397 79 15) (i403 : dt397 79 13 ≤ 500) (i404 : dt397 79 2 = dt 79 2) (i405 : dt397 79 9 = dt 79 9) (i406 : dt397 79 10 = dt 79 10) (i407 : dt397 79 11 = dt 79 11) (i408 : dt397 79 12 = dt 79 12) (i409 : dt397 79 20 = dt 79 20), (502 - dt397 79 13).toNat < k_ → GO (am_XX L xs sio) (d + 6) 159 76 [some (.inr (.inr (some 79))), none, none] [] (SH, dt397) (fun r w2 => ∃ dt2 : Nat → Nat → Int, w2 = (SH, dt2) ∧ InvC dt2 ∧ Fr [79] dt dt2 ∧ ((r = none ∧ (dt 79 13 ≤ dt2 79 15) ∧ ((¬ dt2 79 14 = 0 → dt2 79 15 + 1 ≤ dt2 79 13) ∧ dt2 79 13 ≤ 500) ∧ (dt2 79 15 ≤ dt2 79 13) ∧ (dt2 79 2 = dt 79 2) ∧ (dt2 79 9 = dt 79 9) ∧ (dt2 79 10 = dt 79 10) ∧ (dt2 79 11 = dt 79 11) ∧ (dt2 79 12 = dt 79 12) ∧ (dt2 79 20 = dt 79 20)))) := by
                intro k_
                induction k_ with
                | zero => intro dt397 hI398 hF399 i400 i401 i402 i403 i404 i405 i406 i407 i408 i409 hm; exact absurd hm (Nat.not_lt_zero _)
                | succ k_ ih_loop410 =>
                  intro dt397 hI398 hF399 i400 i401 i402 i403 i404 i405 i406 i407 i408 i409 hm
                  replace i400 := hid i400
                  have r411 : 0 ≤ dt397 79 13 ∧ dt397 79 13 ≤ 501 := InvC_get hI398 79 13 rfl rfl
                  refine go_toq PM159 (k := 3) (pc' := 81) (L' := [some (.inr (.inr (some 79))), none, none]) (st' := [.inl (dt397 79 13), .inr (.inr (some 79))]) (w' := (SH, dt397)) rfl ?_
                  refine go_callq PM159 PM153 (Q' := _) rfl rfl rfl rfl (sp_X6_see L xs sio (d + 5) dt397 hI398  (dt397 79 13) (by first | exact bnd r411 (by decide) (by decide) | exact ⟨by fail, by fail⟩) ) ?_
                  rintro _ _ ⟨rfl, h412⟩
                  refine ⟨rfl, ?_⟩
                  rcases h412 with ⟨v_h412, rfl, h412r, h412⟩
                  rw [show dt397 85 = dt 85 from funext (hF399 85 (by decide))] at h412
                  refine go_callq PM159 PM154 (Q' := _) rfl rfl rfl rfl (sp_X6_isLetter L xs sio (d + 4) dt397 hI398  v_h412 (by first | exact bnd h412r (by decide) (by decide) | exact ⟨by fail, by fail⟩) ) ?_
                  rintro _ _ ⟨rfl, h413⟩
                  refine ⟨rfl, ?_⟩
                  rcases h413 with ⟨v_h413, rfl, h413r, h413⟩
                  refine go_ifq PM159 (k := 0) (p1 := 103) (p2 := 90) (L' := [some (.inr (.inr (some 79))), none, none]) (st' := []) (w' := (SH, dt397)) rfl (z_eq (a := v_h413) (by first | exact bnd h413r (by decide) (by decide) | exact ⟨by fail, by fail⟩)) (fun c414 => ?_) (fun c414 => ?_)
                  · skip
                    have r415 : 0 ≤ dt397 79 9 ∧ dt397 79 9 ≤ 1 := InvC_get hI398 79 9 rfl rfl
                    refine go_ifq PM159 (k := 3) (p1 := 118) (p2 := 111) (L' := [some (.inr (.inr (some 79))), none, none]) (st' := [.inr (.inr (some 79))]) (w' := (SH, dt397)) rfl (z_ne (a := dt397 79 9) (by first | exact bnd r415 (by decide) (by decide) | exact ⟨by fail, by fail⟩)) (fun c416 => ?_) (fun c416 => ?_)
                    · skip
                      have qc416 : 1 ≤ dt397 79 9 := by omega
                      replace c416 := hid c416
                      refine go_toq PM159 (k := 1) (pc' := 119) (L' := [some (.inr (.inr (some 79))), none, none]) (st' := [.inr (.inr (some 79)), .inr (.inr (some 79))]) (w' := (SH, dt397)) rfl ?_
                      refine go_callq PM159 PM158 (Q' := _) rfl rfl rfl rfl (sp_X6_lawWord L xs sio (d + 0) dt397 hI398   (by first | exact True.intro | with_reducible assumption | exact unhid (by with_reducible assumption) | rfl | fail | trivial)) ?_
                      rintro _ _ ⟨rfl, h417⟩
                      refine ⟨rfl, ?_⟩
                      rcases h417 with ⟨v_h417, rfl, h417r, h417⟩
                      have hI418 : InvC (u2 dt397 79 14 v_h417) := InvC_u2 hI398 (lo := -2147483648) (hi := 2147483647) rfl rfl rfl (by first | exact bnd1 h417r (by decide) | fail) (by first | exact bnd2 h417r (by decide) | fail)
                      have hF419 : Fr [79] dt (u2 dt397 79 14 v_h417) := Fr_u2 hF399 (by decide)
                      have w420 : (u2 dt397 79 14 v_h417) 79 13 = dt397 79 13 := rfl
                      have w421 : (u2 dt397 79 14 v_h417) 79 15 = dt397 79 15 := rfl
                      have w422 : (u2 dt397 79 14 v_h417) 79 14 = v_h417 := rfl
                      have w423 : (u2 dt397 79 14 v_h417) 79 16 = dt397 79 16 := rfl
                      have w424 : (u2 dt397 79 14 v_h417) 79 2 = dt397 79 2 := rfl
                      have w425 : (u2 dt397 79 14 v_h417) 79 9 = dt397 79 9 := rfl
                      have w426 : (u2 dt397 79 14 v_h417) 79 10 = dt397 79 10 := rfl
                      have w427 : (u2 dt397 79 14 v_h417) 79 11 = dt397 79 11 := rfl
                      have w428 : (u2 dt397 79 14 v_h417) 79 12 = dt397 79 12 := rfl
                      have w429 : (u2 dt397 79 14 v_h417) 79 20 = dt397 79 20 := rfl
                      refine go_smpq PM159 (L' := [some (.inr (.inr (some 79))), none, none]) (st' := []) (w' := (SH, (u2 dt397 79 14 v_h417))) rfl rfl (s_pf rfl rfl rfl rfl ⟨by omega, by omega⟩) ?_
                      refine go_retq PM159 (k := 1) (r := none) (w1 := (SH, (u2 dt397 79 14 v_h417))) rfl ?_
                      exact ⟨(u2 dt397 79 14 v_h417), rfl, hI418, hF419, ⟨rfl, ⟨by first | exact True.intro | with_reducible assumption | exact unhid (by with_reducible assumption) | rfl | omega | trivial, by first | exact True.intro | with_reducible assumption | exact unhid (by with_reducible assumption) | rfl | (have z_ := unhid i400; omega) | trivial, by first | exact True.intro | with_reducible assumption | exact unhid (by with_reducible assumption) | rfl | omega | trivial, by first | exact True.intro | with_reducible assumption | exact unhid (by with_reducible assumption) | rfl | omega | trivial, by first | exact True.intro | with_reducible assumption | exact unhid (by with_reducible assumption) | rfl | omega | trivial, by first | exact True.intro | with_reducible assumption | exact unhid (by with_reducible assumption) | rfl | omega | trivial, by first | exact True.intro | with_reducible assumption | exact unhid (by with_reducible assumption) | rfl | omega | trivial, by first | exact True.intro | with_reducible assumption | exact unhid (by with_reducible assumption) | rfl | omega | trivial, by first | exact True.intro | with_reducible assumption | exact unhid (by with_reducible assumption) | rfl | omega | trivial⟩⟩⟩
                    · skip
                      refine go_toq PM159 (k := 1) (pc' := 112) (L' := [some (.inr (.inr (some 79))), none, none]) (st' := [.inr (.inr (some 79)), .inr (.inr (some 79))]) (w' := (SH, dt397)) rfl ?_
                      refine go_callq PM159 PM157 (Q' := _) rfl rfl rfl rfl (sp_X6_actWord L xs sio (d + 0) dt397 hI398   (by first | exact True.intro | with_reducible assumption | exact unhid (by with_reducible assumption) | rfl | fail | trivial)) ?_
                      rintro _ _ ⟨rfl, h430⟩
                      refine ⟨rfl, ?_⟩
                      rcases h430 with ⟨v_h430, rfl, h430r, h430⟩
                      refine go_toq PM159 (k := 1) (pc' := 122) (L' := [some (.inr (.inr (some 79))), none, none]) (st' := [.inl v_h430, .inr (.inr (some 79))]) (w' := (SH, dt397)) rfl ?_
                      have hI431 : InvC (u2 dt397 79 14 v_h430) := InvC_u2 hI398 (lo := -2147483648) (hi := 2147483647) rfl rfl rfl (by first | exact bnd1 h430r (by decide) | fail) (by first | exact bnd2 h430r (by decide) | fail)
                      have hF432 : Fr [79] dt (u2 dt397 79 14 v_h430) := Fr_u2 hF399 (by decide)
                      have w433 : (u2 dt397 79 14 v_h430) 79 13 = dt397 79 13 := rfl
                      have w434 : (u2 dt397 79 14 v_h430) 79 15 = dt397 79 15 := rfl
                      have w435 : (u2 dt397 79 14 v_h430) 79 14 = v_h430 := rfl
                      have w436 : (u2 dt397 79 14 v_h430) 79 16 = dt397 79 16 := rfl
                      have w437 : (u2 dt397 79 14 v_h430) 79 2 = dt397 79 2 := rfl
                      have w438 : (u2 dt397 79 14 v_h430) 79 9 = dt397 79 9 := rfl
                      have w439 : (u2 dt397 79 14 v_h430) 79 10 = dt397 79 10 := rfl
                      have w440 : (u2 dt397 79 14 v_h430) 79 11 = dt397 79 11 := rfl
                      have w441 : (u2 dt397 79 14 v_h430) 79 12 = dt397 79 12 := rfl
                      have w442 : (u2 dt397 79 14 v_h430) 79 20 = dt397 79 20 := rfl
                      refine go_smpq PM159 (L' := [some (.inr (.inr (some 79))), none, none]) (st' := []) (w' := (SH, (u2 dt397 79 14 v_h430))) rfl rfl (s_pf rfl rfl rfl rfl (by first | exact bnd h430r (by decide) (by decide) | exact ⟨by fail, by fail⟩)) ?_
                      refine go_retq PM159 (k := 1) (r := none) (w1 := (SH, (u2 dt397 79 14 v_h430))) rfl ?_
                      exact ⟨(u2 dt397 79 14 v_h430), rfl, hI431, hF432, ⟨rfl, ⟨by first | exact True.intro | with_reducible assumption | exact unhid (by with_reducible assumption) | rfl | omega | trivial, by first | exact True.intro | with_reducible assumption | exact unhid (by with_reducible assumption) | rfl | (have z_ := unhid i400; omega) | trivial, by first | exact True.intro | with_reducible assumption | exact unhid (by with_reducible assumption) | rfl | omega | trivial, by first | exact True.intro | with_reducible assumption | exact unhid (by with_reducible assumption) | rfl | omega | trivial, by first | exact True.intro | with_reducible assumption | exact unhid (by with_reducible assumption) | rfl | omega | trivial, by first | exact True.intro | with_reducible assumption | exact unhid (by with_reducible assumption) | rfl | omega | trivial, by first | exact True.intro | with_reducible assumption | exact unhid (by with_reducible assumption) | rfl | omega | trivial, by first | exact True.intro | with_reducible assumption | exact unhid (by with_reducible assumption) | rfl | omega | trivial, by first | exact True.intro | with_reducible assumption | exact unhid (by with_reducible assumption) | rfl | omega | trivial⟩⟩⟩
                  · skip
                    replace c414 := hid c414
                    refine go_toq PM159 (k := 5) (pc' := 97) (L' := [some (.inr (.inr (some 79))), none, none]) (st' := [.inl ((dt397 79 13) + 1), .inr (.inr (some 79))]) (w' := (SH, dt397)) rfl ?_
                    have hI443 : InvC (u2 dt397 79 13 ((dt397 79 13) + 1)) := InvC_u2 hI398 (lo := 0) (hi := 501) rfl rfl rfl (by omega) (by omega)
                    have hF444 : Fr [79] dt (u2 dt397 79 13 ((dt397 79 13) + 1)) := Fr_u2 hF399 (by decide)
                    have w445 : (u2 dt397 79 13 ((dt397 79 13) + 1)) 79 13 = (dt397 79 13) + 1 := rfl
                    have w446 : (u2 dt397 79 13 ((dt397 79 13) + 1)) 79 15 = dt397 79 15 := rfl
                    have w447 : (u2 dt397 79 13 ((dt397 79 13) + 1)) 79 14 = dt397 79 14 := rfl
                    have w448 : (u2 dt397 79 13 ((dt397 79 13) + 1)) 79 16 = dt397 79 16 := rfl
                    have w449 : (u2 dt397 79 13 ((dt397 79 13) + 1)) 79 2 = dt397 79 2 := rfl
                    have w450 : (u2 dt397 79 13 ((dt397 79 13) + 1)) 79 9 = dt397 79 9 := rfl
                    have w451 : (u2 dt397 79 13 ((dt397 79 13) + 1)) 79 10 = dt397 79 10 := rfl
                    have w452 : (u2 dt397 79 13 ((dt397 79 13) + 1)) 79 11 = dt397 79 11 := rfl
                    have w453 : (u2 dt397 79 13 ((dt397 79 13) + 1)) 79 12 = dt397 79 12 := rfl
                    have w454 : (u2 dt397 79 13 ((dt397 79 13) + 1)) 79 20 = dt397 79 20 := rfl
                    refine go_smpq PM159 (L' := [some (.inr (.inr (some 79))), none, none]) (st' := []) (w' := (SH, (u2 dt397 79 13 ((dt397 79 13) + 1)))) rfl rfl (s_pf rfl rfl rfl rfl (by first | exact bndp r411 (by decide) (by decide) | exact ⟨by fail, by fail⟩)) ?_
                    refine go_toq PM159 (k := 1) (pc' := 76) (L' := [some (.inr (.inr (some 79))), none, none]) (st' := []) (w' := (SH, (u2 dt397 79 13 ((dt397 79 13) + 1)))) rfl ?_
                    exact GO.le (ih_loop410 (u2 dt397 79 13 ((dt397 79 13) + 1)) hI443 hF444 (by first | omega | (have t_ : (97 ≤ SV (dt 85) (dt397 79 12) (dt397 79 13) ∧ SV (dt 85) (dt397 79 12) (dt397 79 13) ≤ 122) ∨ (65 ≤ SV (dt 85) (dt397 79 12) (dt397 79 13) ∧ SV (dt 85) (dt397 79 12) (dt397 79 13) ≤ 90) := (by fail); exact Or.inl t_)) (by omega) (by omega) (by (have z_ := unhid c414; omega)) (by omega) (by omega) (by omega) (by omega) (by omega) (by omega) (by omega)) ⟨.inl rfl, .inl rfl, .inl rfl, trivial⟩
              exact GO.le (loop410 _ (u2 dt33 79 15 (dt33 79 13)) hI61 hF62 (by first | fail | (have t_ : (97 ≤ SV (dt 85) ((u2 dt33 79 15 (dt33 79 13)) 79 12) (dt33 79 13) ∧ SV (dt 85) ((u2 dt33 79 15 (dt33 79 13)) 79 12) (dt33 79 13) ≤ 122) ∨ (65 ≤ SV (dt 85) ((u2 dt33 79 15 (dt33 79 13)) 79 12) (dt33 79 13) ∧ SV (dt 85) ((u2 dt33 79 15 (dt33 79 13)) 79 12) (dt33 79 13) ≤ 90) := (by (have z_ := unhid c76; omega)); exact Or.inl t_)) (by omega) (by omega) (by omega) (by omega) (by omega) (by omega) (by omega) (by omega) (by omega) (Nat.lt_succ_self _)) ⟨.inl rfl, .inr ⟨rfl, trivial⟩, .inl rfl, trivial⟩
          · skip
            refine go_toq PM159 (k := 2) (pc' := 63) (L' := [some (.inr (.inr (some 79))), some (.inl v_h73), none]) (st' := [.inl 0, .inr (.inr (some 79))]) (w' := (SH, (u2 dt33 79 15 (dt33 79 13)))) rfl ?_
            have hI455 : InvC (u2 (u2 dt33 79 15 (dt33 79 13)) 79 14 0) := InvC_u2 hI61 (lo := -2147483648) (hi := 2147483647) rfl rfl rfl (by decide) (by decide)
            have hF456 : Fr [79] dt (u2 (u2 dt33 79 15 (dt33 79 13)) 79 14 0) := Fr_u2 hF62 (by decide)
            have w457 : (u2 (u2 dt33 79 15 (dt33 79 13)) 79 14 0) 79 13 = (u2 dt33 79 15 (dt33 79 13)) 79 13 := rfl
            have w458 : (u2 (u2 dt33 79 15 (dt33 79 13)) 79 14 0) 79 15 = (u2 dt33 79 15 (dt33 79 13)) 79 15 := rfl
            have w459 : (u2 (u2 dt33 79 15 (dt33 79 13)) 79 14 0) 79 14 = 0 := rfl
            have w460 : (u2 (u2 dt33 79 15 (dt33 79 13)) 79 14 0) 79 16 = (u2 dt33 79 15 (dt33 79 13)) 79 16 := rfl
            have w461 : (u2 (u2 dt33 79 15 (dt33 79 13)) 79 14 0) 79 2 = (u2 dt33 79 15 (dt33 79 13)) 79 2 := rfl
            have w462 : (u2 (u2 dt33 79 15 (dt33 79 13)) 79 14 0) 79 9 = (u2 dt33 79 15 (dt33 79 13)) 79 9 := rfl
            have w463 : (u2 (u2 dt33 79 15 (dt33 79 13)) 79 14 0) 79 10 = (u2 dt33 79 15 (dt33 79 13)) 79 10 := rfl
            have w464 : (u2 (u2 dt33 79 15 (dt33 79 13)) 79 14 0) 79 11 = (u2 dt33 79 15 (dt33 79 13)) 79 11 := rfl
            have w465 : (u2 (u2 dt33 79 15 (dt33 79 13)) 79 14 0) 79 12 = (u2 dt33 79 15 (dt33 79 13)) 79 12 := rfl
            have w466 : (u2 (u2 dt33 79 15 (dt33 79 13)) 79 14 0) 79 20 = (u2 dt33 79 15 (dt33 79 13)) 79 20 := rfl
            refine go_smpq PM159 (L' := [some (.inr (.inr (some 79))), some (.inl v_h73), none]) (st' := []) (w' := (SH, (u2 (u2 dt33 79 15 (dt33 79 13)) 79 14 0))) rfl rfl (s_pf rfl rfl rfl rfl ⟨by decide, by decide⟩) ?_
            refine go_retq PM159 (k := 1) (r := none) (w1 := (SH, (u2 (u2 dt33 79 15 (dt33 79 13)) 79 14 0))) rfl ?_
            exact ⟨(u2 (u2 dt33 79 15 (dt33 79 13)) 79 14 0), rfl, hI455, hF456, ⟨rfl, ⟨by first | exact True.intro | with_reducible assumption | exact unhid (by with_reducible assumption) | rfl | omega | trivial, by first | exact True.intro | with_reducible assumption | exact unhid (by with_reducible assumption) | rfl | omega | trivial, by first | exact True.intro | with_reducible assumption | exact unhid (by with_reducible assumption) | rfl | omega | trivial, by first | exact True.intro | with_reducible assumption | exact unhid (by with_reducible assumption) | rfl | omega | trivial, by first | exact True.intro | with_reducible assumption | exact unhid (by with_reducible assumption) | rfl | omega | trivial, by first | exact True.intro | with_reducible assumption | exact unhid (by with_reducible assumption) | rfl | omega | trivial, by first | exact True.intro | with_reducible assumption | exact unhid (by with_reducible assumption) | rfl | omega | trivial, by first | exact True.intro | with_reducible assumption | exact unhid (by with_reducible assumption) | rfl | omega | trivial, by first | exact True.intro | with_reducible assumption | exact unhid (by with_reducible assumption) | rfl | omega | trivial⟩⟩⟩
        · skip
          refine go_toq PM159 (k := 5) (pc' := 33) (L' := [some (.inr (.inr (some 79))), none, none]) (st' := [.inl ((dt33 79 13) + 1), .inr (.inr (some 79))]) (w' := (SH, dt33)) rfl ?_
          have hI467 : InvC (u2 dt33 79 13 ((dt33 79 13) + 1)) := InvC_u2 hI34 (lo := 0) (hi := 501) rfl rfl rfl (by omega) (by omega)
          have hF468 : Fr [79] dt (u2 dt33 79 13 ((dt33 79 13) + 1)) := Fr_u2 hF35 (by decide)
          have w469 : (u2 dt33 79 13 ((dt33 79 13) + 1)) 79 13 = (dt33 79 13) + 1 := rfl
          have w470 : (u2 dt33 79 13 ((dt33 79 13) + 1)) 79 15 = dt33 79 15 := rfl
          have w471 : (u2 dt33 79 13 ((dt33 79 13) + 1)) 79 14 = dt33 79 14 := rfl
          have w472 : (u2 dt33 79 13 ((dt33 79 13) + 1)) 79 16 = dt33 79 16 := rfl
          have w473 : (u2 dt33 79 13 ((dt33 79 13) + 1)) 79 2 = dt33 79 2 := rfl
          have w474 : (u2 dt33 79 13 ((dt33 79 13) + 1)) 79 9 = dt33 79 9 := rfl
          have w475 : (u2 dt33 79 13 ((dt33 79 13) + 1)) 79 10 = dt33 79 10 := rfl
          have w476 : (u2 dt33 79 13 ((dt33 79 13) + 1)) 79 11 = dt33 79 11 := rfl
          have w477 : (u2 dt33 79 13 ((dt33 79 13) + 1)) 79 12 = dt33 79 12 := rfl
          have w478 : (u2 dt33 79 13 ((dt33 79 13) + 1)) 79 20 = dt33 79 20 := rfl
          refine go_smpq PM159 (L' := [some (.inr (.inr (some 79))), none, none]) (st' := []) (w' := (SH, (u2 dt33 79 13 ((dt33 79 13) + 1)))) rfl rfl (s_pf rfl rfl rfl rfl (by first | exact bndp r44 (by decide) (by decide) | exact ⟨by fail, by fail⟩)) ?_
          refine go_toq PM159 (k := 1) (pc' := 0) (L' := [some (.inr (.inr (some 79))), none, none]) (st' := []) (w' := (SH, (u2 dt33 79 13 ((dt33 79 13) + 1)))) rfl ?_
          exact GO.le (ih_loop43 (u2 dt33 79 13 ((dt33 79 13) + 1)) hI467 hF468 (by omega) (by omega) (by omega) (by omega) (by omega) (by omega) (by omega) (by omega)) ⟨.inl rfl, .inl rfl, .inl rfl, trivial⟩
  exact GO.le (loop43 _ dt hI hF (by omega) (by omega) (by omega) (by omega) (by omega) (by omega) (by omega) (Nat.lt_succ_self _)) ⟨.inl rfl, .inl rfl, .inl rfl, trivial⟩
