set_option maxRecDepth 20000 in
theorem sp_X6_isLetter (L : Nat) (xs : Nat → Int32) (sio : Option Nat) (d : Nat) (dt : Nat → Nat → Int) (hI : InvC dt)  (p1 : Int) (h_p1 : (-2147483648) ≤ p1 ∧ p1 ≤ 2147483647)  : GO (am_XX L xs sio) (d + 1) 154 0 [some (.inl p1)] [] (SH, dt) (fun r w2 => w2 = (SH, dt) ∧ ((∃ v : Int, r = some (.inl v) ∧ (0 ≤ v ∧ v ≤ 1) ∧ (v = 1 → 65 ≤ p1)))) := by
  refine go_to (k := 3) (pc' := 5) (L' := [some (.inl p1)]) (st' := [.inl 122, .inl 97, .inl p1]) (w' := (SH, dt)) (fun _ => rfl) ?_
  refine go_call (Q' := _) rfl rfl rfl rfl rfl (sp_X6_isIn L xs sio (d + 0) dt hI  p1 ⟨by omega, by omega⟩ 97 ⟨by omega, by omega⟩ 122 ⟨by omega, by omega⟩ ) ?_
  rintro _ _ ⟨rfl, h1⟩
  refine ⟨rfl, ?_⟩
  rcases h1 with ⟨rfl, h1⟩ | ⟨rfl, h1⟩
  · skip
    refine go_ret (k := 4) (r := some (.inl 1)) (w1 := (SH, dt)) (fun _ => rfl) ?_
    exact ⟨rfl, ⟨_, rfl, ⟨by omega, by omega⟩, by first | trivial | omega⟩⟩
  · skip
    refine go_to (k := 4) (pc' := 16) (L' := [some (.inl p1)]) (st' := [.inl 90, .inl 65, .inl p1]) (w' := (SH, dt)) (fun _ => rfl) ?_
    refine go_call (Q' := _) rfl rfl rfl rfl rfl (sp_X6_isIn L xs sio (d + 0) dt hI  p1 ⟨by omega, by omega⟩ 65 ⟨by omega, by omega⟩ 90 ⟨by omega, by omega⟩ ) ?_
    rintro _ _ ⟨rfl, h3⟩
    refine ⟨rfl, ?_⟩
    rcases h3 with ⟨rfl, h3⟩ | ⟨rfl, h3⟩
    · skip
      refine go_ret (k := 4) (r := some (.inl 1)) (w1 := (SH, dt)) (fun _ => rfl) ?_
      exact ⟨rfl, ⟨_, rfl, ⟨by omega, by omega⟩, by first | trivial | omega⟩⟩
    · skip
      refine go_ret (k := 3) (r := some (.inl 0)) (w1 := (SH, dt)) (fun _ => rfl) ?_
      exact ⟨rfl, ⟨_, rfl, ⟨by omega, by omega⟩, by first | trivial | omega⟩⟩
set_option maxRecDepth 20000 in
theorem sp_X6_isDigit (L : Nat) (xs : Nat → Int32) (sio : Option Nat) (d : Nat) (dt : Nat → Nat → Int) (hI : InvC dt)  (p1 : Int) (h_p1 : (-2147483648) ≤ p1 ∧ p1 ≤ 2147483647)  : GO (am_XX L xs sio) (d + 1) 155 0 [some (.inl p1)] [] (SH, dt) (fun r w2 => w2 = (SH, dt) ∧ ((∃ v : Int, r = some (.inl v) ∧ (0 ≤ v ∧ v ≤ 1) ∧ (v = 1 → 48 ≤ p1 ∧ p1 ≤ 57)))) := by
  refine go_to (k := 3) (pc' := 5) (L' := [some (.inl p1)]) (st' := [.inl 57, .inl 48, .inl p1]) (w' := (SH, dt)) (fun _ => rfl) ?_
  refine go_call (Q' := _) rfl rfl rfl rfl rfl (sp_X6_isIn L xs sio (d + 0) dt hI  p1 ⟨by omega, by omega⟩ 48 ⟨by omega, by omega⟩ 57 ⟨by omega, by omega⟩ ) ?_
  rintro _ _ ⟨rfl, h1⟩
  refine ⟨rfl, ?_⟩
  rcases h1 with ⟨rfl, h1⟩ | ⟨rfl, h1⟩
  · skip
    refine go_ret (k := 1) (r := some (.inl 1)) (w1 := (SH, dt)) (fun _ => rfl) ?_
    exact ⟨rfl, ⟨_, rfl, ⟨by omega, by omega⟩, by first | trivial | omega⟩⟩
  · skip
    refine go_ret (k := 1) (r := some (.inl 0)) (w1 := (SH, dt)) (fun _ => rfl) ?_
    exact ⟨rfl, ⟨_, rfl, ⟨by omega, by omega⟩, by first | trivial | omega⟩⟩
set_option maxRecDepth 20000 in
theorem sp_X6_see (L : Nat) (xs : Nat → Int32) (sio : Option Nat) (d : Nat) (dt : Nat → Nat → Int) (hI : InvC dt)  (p1 : Int) (h_p1 : 0 ≤ p1 ∧ p1 ≤ 501)  : GO (am_XX L xs sio) (d) 153 0 [some (.inr (.inr (some 79))), some (.inl p1)] [] (SH, dt) (fun r w2 => w2 = (SH, dt) ∧ ((∃ v : Int, r = some (.inl v) ∧ ((-1) ≤ v ∧ v ≤ 255) ∧ (v = -1 ∨ p1 < dt 79 12)))) := by
  have r1 : 0 ≤ dt 79 12 ∧ dt 79 12 ≤ 500 := InvC_get hI 79 12 rfl rfl
  refine go_if (k := 4) (p1 := 17) (p2 := 8) (L' := [some (.inr (.inr (some 79))), some (.inl p1)]) (st' := []) (w' := (SH, dt)) (fun _ => rfl) (c_ge (a := p1) (b := dt 79 12) ⟨by omega, by omega⟩ ⟨by omega, by omega⟩) (fun c2 => ?_) (fun c2 => ?_)
  · skip
    refine go_ret (k := 2) (r := some (.inl (-1))) (w1 := (SH, dt)) (fun _ => rfl) ?_
    exact ⟨rfl, ⟨_, rfl, ⟨by omega, by omega⟩, by first | trivial | omega⟩⟩
  · skip
    refine go_to (k := 3) (pc' := 13) (L' := [some (.inr (.inr (some 79))), some (.inl p1)]) (st' := [.inl p1, .inr (.inr (some 85))]) (w' := (SH, dt)) (fun _ => rfl) ?_
    have r3 : 0 ≤ dt 85 (p1).toNat ∧ dt 85 (p1).toNat ≤ 255 := InvC_get hI 85 (p1).toNat rfl rfl
    refine go_smp (L' := [some (.inr (.inr (some 79))), some (.inl p1)]) (st' := [.inl (dt 85 (p1).toNat)]) (w' := (SH, dt)) rfl rfl (s_iald (n := 500) (f := dt 85) rfl ⟨by omega, by omega⟩) ?_
    refine go_ret (k := 2) (r := some (.inl (dt 85 (p1).toNat))) (w1 := (SH, dt)) (fun _ => rfl) ?_
    exact ⟨rfl, ⟨_, rfl, ⟨by omega, by omega⟩, by first | trivial | omega⟩⟩
set_option maxRecDepth 20000 in
theorem sp_X6_actWord (L : Nat) (xs : Nat → Int32) (sio : Option Nat) (d : Nat) (dt : Nat → Nat → Int) (hI : InvC dt)    : GO (am_XX L xs sio) (d + 5) 157 0 [some (.inr (.inr (some 79)))] [] (SH, dt) (fun r w2 => w2 = (SH, dt) ∧ ((∃ v : Int, r = some (.inl v) ∧ (1 ≤ v ∧ v ≤ 28) ∧ True))) := by
  refine go_to (k := 2) (pc' := 3) (L' := [some (.inr (.inr (some 79)))]) (st' := [.inr (.inr (some 1003)), .inr (.inr (some 79))]) (w' := (SH, dt)) (fun _ => rfl) ?_
  refine go_call (Q' := _) rfl rfl rfl rfl rfl (sp_X6_is_1003 L xs sio (d + 0) dt hI   ) ?_
  rintro _ _ ⟨rfl, h1⟩
  refine ⟨rfl, ?_⟩
  rcases h1 with ⟨v_h1, rfl, h1r, h1⟩
  refine go_if (k := 1) (p1 := 12) (p2 := 9) (L' := [some (.inr (.inr (some 79)))]) (st' := []) (w' := (SH, dt)) (fun _ => rfl) (z_eq (a := v_h1) ⟨by omega, by omega⟩) (fun c2 => ?_) (fun c2 => ?_)
  · skip
    refine go_to (k := 2) (pc' := 15) (L' := [some (.inr (.inr (some 79)))]) (st' := [.inr (.inr (some 1004)), .inr (.inr (some 79))]) (w' := (SH, dt)) (fun _ => rfl) ?_
    refine go_call (Q' := _) rfl rfl rfl rfl rfl (sp_X6_is_1004 L xs sio (d + 0) dt hI   ) ?_
    rintro _ _ ⟨rfl, h3⟩
    refine ⟨rfl, ?_⟩
    rcases h3 with ⟨v_h3, rfl, h3r, h3⟩
    refine go_if (k := 1) (p1 := 24) (p2 := 21) (L' := [some (.inr (.inr (some 79)))]) (st' := []) (w' := (SH, dt)) (fun _ => rfl) (z_eq (a := v_h3) ⟨by omega, by omega⟩) (fun c4 => ?_) (fun c4 => ?_)
    · skip
      refine go_to (k := 2) (pc' := 27) (L' := [some (.inr (.inr (some 79)))]) (st' := [.inr (.inr (some 1005)), .inr (.inr (some 79))]) (w' := (SH, dt)) (fun _ => rfl) ?_
      refine go_call (Q' := _) rfl rfl rfl rfl rfl (sp_X6_is_1005 L xs sio (d + 0) dt hI   ) ?_
      rintro _ _ ⟨rfl, h5⟩
      refine ⟨rfl, ?_⟩
      rcases h5 with ⟨v_h5, rfl, h5r, h5⟩
      refine go_if (k := 1) (p1 := 36) (p2 := 33) (L' := [some (.inr (.inr (some 79)))]) (st' := []) (w' := (SH, dt)) (fun _ => rfl) (z_eq (a := v_h5) ⟨by omega, by omega⟩) (fun c6 => ?_) (fun c6 => ?_)
      · skip
        refine go_to (k := 2) (pc' := 39) (L' := [some (.inr (.inr (some 79)))]) (st' := [.inr (.inr (some 1006)), .inr (.inr (some 79))]) (w' := (SH, dt)) (fun _ => rfl) ?_
        refine go_call (Q' := _) rfl rfl rfl rfl rfl (sp_X6_is_1006 L xs sio (d + 0) dt hI   ) ?_
        rintro _ _ ⟨rfl, h7⟩
        refine ⟨rfl, ?_⟩
        rcases h7 with ⟨v_h7, rfl, h7r, h7⟩
        refine go_if (k := 1) (p1 := 48) (p2 := 45) (L' := [some (.inr (.inr (some 79)))]) (st' := []) (w' := (SH, dt)) (fun _ => rfl) (z_eq (a := v_h7) ⟨by omega, by omega⟩) (fun c8 => ?_) (fun c8 => ?_)
        · skip
          refine go_to (k := 2) (pc' := 51) (L' := [some (.inr (.inr (some 79)))]) (st' := [.inr (.inr (some 1007)), .inr (.inr (some 79))]) (w' := (SH, dt)) (fun _ => rfl) ?_
          refine go_call (Q' := _) rfl rfl rfl rfl rfl (sp_X6_is_1007 L xs sio (d + 0) dt hI   ) ?_
          rintro _ _ ⟨rfl, h9⟩
          refine ⟨rfl, ?_⟩
          rcases h9 with ⟨v_h9, rfl, h9r, h9⟩
          refine go_if (k := 1) (p1 := 60) (p2 := 57) (L' := [some (.inr (.inr (some 79)))]) (st' := []) (w' := (SH, dt)) (fun _ => rfl) (z_eq (a := v_h9) ⟨by omega, by omega⟩) (fun c10 => ?_) (fun c10 => ?_)
          · skip
            refine go_to (k := 2) (pc' := 63) (L' := [some (.inr (.inr (some 79)))]) (st' := [.inr (.inr (some 1008)), .inr (.inr (some 79))]) (w' := (SH, dt)) (fun _ => rfl) ?_
            refine go_call (Q' := _) rfl rfl rfl rfl rfl (sp_X6_is_1008 L xs sio (d + 0) dt hI   ) ?_
            rintro _ _ ⟨rfl, h11⟩
            refine ⟨rfl, ?_⟩
            rcases h11 with ⟨v_h11, rfl, h11r, h11⟩
            refine go_if (k := 1) (p1 := 72) (p2 := 69) (L' := [some (.inr (.inr (some 79)))]) (st' := []) (w' := (SH, dt)) (fun _ => rfl) (z_eq (a := v_h11) ⟨by omega, by omega⟩) (fun c12 => ?_) (fun c12 => ?_)
            · skip
              refine go_to (k := 2) (pc' := 75) (L' := [some (.inr (.inr (some 79)))]) (st' := [.inr (.inr (some 1009)), .inr (.inr (some 79))]) (w' := (SH, dt)) (fun _ => rfl) ?_
              refine go_call (Q' := _) rfl rfl rfl rfl rfl (sp_X6_is_1009 L xs sio (d + 0) dt hI   ) ?_
              rintro _ _ ⟨rfl, h13⟩
              refine ⟨rfl, ?_⟩
              rcases h13 with ⟨v_h13, rfl, h13r, h13⟩
              refine go_if (k := 1) (p1 := 84) (p2 := 81) (L' := [some (.inr (.inr (some 79)))]) (st' := []) (w' := (SH, dt)) (fun _ => rfl) (z_eq (a := v_h13) ⟨by omega, by omega⟩) (fun c14 => ?_) (fun c14 => ?_)
              · skip
                refine go_to (k := 2) (pc' := 87) (L' := [some (.inr (.inr (some 79)))]) (st' := [.inr (.inr (some 1010)), .inr (.inr (some 79))]) (w' := (SH, dt)) (fun _ => rfl) ?_
                refine go_call (Q' := _) rfl rfl rfl rfl rfl (sp_X6_is_1010 L xs sio (d + 0) dt hI   ) ?_
                rintro _ _ ⟨rfl, h15⟩
                refine ⟨rfl, ?_⟩
                rcases h15 with ⟨v_h15, rfl, h15r, h15⟩
                refine go_if (k := 1) (p1 := 96) (p2 := 93) (L' := [some (.inr (.inr (some 79)))]) (st' := []) (w' := (SH, dt)) (fun _ => rfl) (z_eq (a := v_h15) ⟨by omega, by omega⟩) (fun c16 => ?_) (fun c16 => ?_)
                · skip
                  refine go_to (k := 2) (pc' := 99) (L' := [some (.inr (.inr (some 79)))]) (st' := [.inr (.inr (some 1011)), .inr (.inr (some 79))]) (w' := (SH, dt)) (fun _ => rfl) ?_
                  refine go_call (Q' := _) rfl rfl rfl rfl rfl (sp_X6_is_1011 L xs sio (d + 0) dt hI   ) ?_
                  rintro _ _ ⟨rfl, h17⟩
                  refine ⟨rfl, ?_⟩
                  rcases h17 with ⟨v_h17, rfl, h17r, h17⟩
                  have j19 : ∀ (j19_s0 : Int) (i20 : 1 ≤ j19_s0 ∧ j19_s0 ≤ 28), GO (am_XX L xs sio) (d + 5) 157 111 [some (.inr (.inr (some 79)))] [.inl j19_s0] (SH, dt) (fun r w2 => w2 = (SH, dt) ∧ ((∃ v : Int, r = some (.inl v) ∧ (1 ≤ v ∧ v ≤ 28) ∧ True))) := by
                    intro j19_s0 i20
                    refine go_ret (k := 1) (r := some (.inl j19_s0)) (w1 := (SH, dt)) (fun _ => rfl) ?_
                    exact ⟨rfl, ⟨_, rfl, ⟨by omega, by omega⟩, trivial⟩⟩
                  refine go_if (k := 1) (p1 := 110) (p2 := 105) (L' := [some (.inr (.inr (some 79)))]) (st' := []) (w' := (SH, dt)) (fun _ => rfl) (z_eq (a := v_h17) ⟨by omega, by omega⟩) (fun c21 => ?_) (fun c21 => ?_)
                  · skip
                    refine go_to (k := 1) (pc' := 111) (L' := [some (.inr (.inr (some 79)))]) (st' := [.inl 1]) (w' := (SH, dt)) (fun _ => rfl) ?_
                    exact GO.le (j19 1 (by omega)) ⟨.inl rfl, trivial⟩
                  · skip
                    refine go_to (k := 2) (pc' := 111) (L' := [some (.inr (.inr (some 79)))]) (st' := [.inl 28]) (w' := (SH, dt)) (fun _ => rfl) ?_
                    exact GO.le (j19 28 (by omega)) ⟨.inl rfl, trivial⟩
                · skip
                  refine go_ret (k := 2) (r := some (.inl 27)) (w1 := (SH, dt)) (fun _ => rfl) ?_
                  exact ⟨rfl, ⟨_, rfl, ⟨by omega, by omega⟩, trivial⟩⟩
              · skip
                refine go_ret (k := 2) (r := some (.inl 26)) (w1 := (SH, dt)) (fun _ => rfl) ?_
                exact ⟨rfl, ⟨_, rfl, ⟨by omega, by omega⟩, trivial⟩⟩
            · skip
              refine go_ret (k := 2) (r := some (.inl 25)) (w1 := (SH, dt)) (fun _ => rfl) ?_
              exact ⟨rfl, ⟨_, rfl, ⟨by omega, by omega⟩, trivial⟩⟩
          · skip
            refine go_ret (k := 2) (r := some (.inl 24)) (w1 := (SH, dt)) (fun _ => rfl) ?_
            exact ⟨rfl, ⟨_, rfl, ⟨by omega, by omega⟩, trivial⟩⟩
        · skip
          refine go_ret (k := 2) (r := some (.inl 23)) (w1 := (SH, dt)) (fun _ => rfl) ?_
          exact ⟨rfl, ⟨_, rfl, ⟨by omega, by omega⟩, trivial⟩⟩
      · skip
        refine go_ret (k := 2) (r := some (.inl 22)) (w1 := (SH, dt)) (fun _ => rfl) ?_
        exact ⟨rfl, ⟨_, rfl, ⟨by omega, by omega⟩, trivial⟩⟩
    · skip
      refine go_ret (k := 2) (r := some (.inl 21)) (w1 := (SH, dt)) (fun _ => rfl) ?_
      exact ⟨rfl, ⟨_, rfl, ⟨by omega, by omega⟩, trivial⟩⟩
  · skip
    refine go_ret (k := 2) (r := some (.inl 20)) (w1 := (SH, dt)) (fun _ => rfl) ?_
    exact ⟨rfl, ⟨_, rfl, ⟨by omega, by omega⟩, trivial⟩⟩
set_option maxRecDepth 20000 in
theorem sp_X6_lawWord (L : Nat) (xs : Nat → Int32) (sio : Option Nat) (d : Nat) (dt : Nat → Nat → Int) (hI : InvC dt)    : GO (am_XX L xs sio) (d + 5) 158 0 [some (.inr (.inr (some 79)))] [] (SH, dt) (fun r w2 => w2 = (SH, dt) ∧ ((∃ v : Int, r = some (.inl v) ∧ (1 ≤ v ∧ v ≤ 46) ∧ True))) := by
  refine go_to (k := 2) (pc' := 3) (L' := [some (.inr (.inr (some 79)))]) (st' := [.inr (.inr (some 1012)), .inr (.inr (some 79))]) (w' := (SH, dt)) (fun _ => rfl) ?_
  refine go_call (Q' := _) rfl rfl rfl rfl rfl (sp_X6_is_1012 L xs sio (d + 0) dt hI   ) ?_
  rintro _ _ ⟨rfl, h1⟩
  refine ⟨rfl, ?_⟩
  rcases h1 with ⟨v_h1, rfl, h1r, h1⟩
  refine go_if (k := 1) (p1 := 12) (p2 := 9) (L' := [some (.inr (.inr (some 79)))]) (st' := []) (w' := (SH, dt)) (fun _ => rfl) (z_eq (a := v_h1) ⟨by omega, by omega⟩) (fun c2 => ?_) (fun c2 => ?_)
  · skip
    refine go_to (k := 2) (pc' := 15) (L' := [some (.inr (.inr (some 79)))]) (st' := [.inr (.inr (some 1013)), .inr (.inr (some 79))]) (w' := (SH, dt)) (fun _ => rfl) ?_
    refine go_call (Q' := _) rfl rfl rfl rfl rfl (sp_X6_is_1013 L xs sio (d + 0) dt hI   ) ?_
    rintro _ _ ⟨rfl, h3⟩
    refine ⟨rfl, ?_⟩
    rcases h3 with ⟨v_h3, rfl, h3r, h3⟩
    refine go_if (k := 1) (p1 := 24) (p2 := 21) (L' := [some (.inr (.inr (some 79)))]) (st' := []) (w' := (SH, dt)) (fun _ => rfl) (z_eq (a := v_h3) ⟨by omega, by omega⟩) (fun c4 => ?_) (fun c4 => ?_)
    · skip
      refine go_to (k := 2) (pc' := 27) (L' := [some (.inr (.inr (some 79)))]) (st' := [.inr (.inr (some 1014)), .inr (.inr (some 79))]) (w' := (SH, dt)) (fun _ => rfl) ?_
      refine go_call (Q' := _) rfl rfl rfl rfl rfl (sp_X6_is_1014 L xs sio (d + 0) dt hI   ) ?_
      rintro _ _ ⟨rfl, h5⟩
      refine ⟨rfl, ?_⟩
      rcases h5 with ⟨v_h5, rfl, h5r, h5⟩
      refine go_if (k := 1) (p1 := 35) (p2 := 33) (L' := [some (.inr (.inr (some 79)))]) (st' := []) (w' := (SH, dt)) (fun _ => rfl) (z_eq (a := v_h5) ⟨by omega, by omega⟩) (fun c6 => ?_) (fun c6 => ?_)
      · skip
        refine go_to (k := 2) (pc' := 38) (L' := [some (.inr (.inr (some 79)))]) (st' := [.inr (.inr (some 1015)), .inr (.inr (some 79))]) (w' := (SH, dt)) (fun _ => rfl) ?_
        refine go_call (Q' := _) rfl rfl rfl rfl rfl (sp_X6_is_1015 L xs sio (d + 0) dt hI   ) ?_
        rintro _ _ ⟨rfl, h7⟩
        refine ⟨rfl, ?_⟩
        rcases h7 with ⟨v_h7, rfl, h7r, h7⟩
        refine go_if (k := 1) (p1 := 46) (p2 := 44) (L' := [some (.inr (.inr (some 79)))]) (st' := []) (w' := (SH, dt)) (fun _ => rfl) (z_eq (a := v_h7) ⟨by omega, by omega⟩) (fun c8 => ?_) (fun c8 => ?_)
        · skip
          refine go_to (k := 2) (pc' := 49) (L' := [some (.inr (.inr (some 79)))]) (st' := [.inr (.inr (some 1016)), .inr (.inr (some 79))]) (w' := (SH, dt)) (fun _ => rfl) ?_
          refine go_call (Q' := _) rfl rfl rfl rfl rfl (sp_X6_is_1016 L xs sio (d + 0) dt hI   ) ?_
          rintro _ _ ⟨rfl, h9⟩
          refine ⟨rfl, ?_⟩
          rcases h9 with ⟨v_h9, rfl, h9r, h9⟩
          refine go_if (k := 1) (p1 := 57) (p2 := 55) (L' := [some (.inr (.inr (some 79)))]) (st' := []) (w' := (SH, dt)) (fun _ => rfl) (z_eq (a := v_h9) ⟨by omega, by omega⟩) (fun c10 => ?_) (fun c10 => ?_)
          · skip
            refine go_to (k := 2) (pc' := 60) (L' := [some (.inr (.inr (some 79)))]) (st' := [.inr (.inr (some 1017)), .inr (.inr (some 79))]) (w' := (SH, dt)) (fun _ => rfl) ?_
            refine go_call (Q' := _) rfl rfl rfl rfl rfl (sp_X6_is_1017 L xs sio (d + 0) dt hI   ) ?_
            rintro _ _ ⟨rfl, h11⟩
            refine ⟨rfl, ?_⟩
            rcases h11 with ⟨v_h11, rfl, h11r, h11⟩
            refine go_if (k := 1) (p1 := 69) (p2 := 66) (L' := [some (.inr (.inr (some 79)))]) (st' := []) (w' := (SH, dt)) (fun _ => rfl) (z_eq (a := v_h11) ⟨by omega, by omega⟩) (fun c12 => ?_) (fun c12 => ?_)
            · skip
              refine go_to (k := 2) (pc' := 72) (L' := [some (.inr (.inr (some 79)))]) (st' := [.inr (.inr (some 1018)), .inr (.inr (some 79))]) (w' := (SH, dt)) (fun _ => rfl) ?_
              refine go_call (Q' := _) rfl rfl rfl rfl rfl (sp_X6_is_1018 L xs sio (d + 0) dt hI   ) ?_
              rintro _ _ ⟨rfl, h13⟩
              refine ⟨rfl, ?_⟩
              rcases h13 with ⟨v_h13, rfl, h13r, h13⟩
              refine go_if (k := 1) (p1 := 81) (p2 := 78) (L' := [some (.inr (.inr (some 79)))]) (st' := []) (w' := (SH, dt)) (fun _ => rfl) (z_eq (a := v_h13) ⟨by omega, by omega⟩) (fun c14 => ?_) (fun c14 => ?_)
              · skip
                refine go_to (k := 2) (pc' := 84) (L' := [some (.inr (.inr (some 79)))]) (st' := [.inr (.inr (some 1019)), .inr (.inr (some 79))]) (w' := (SH, dt)) (fun _ => rfl) ?_
                refine go_call (Q' := _) rfl rfl rfl rfl rfl (sp_X6_is_1019 L xs sio (d + 0) dt hI   ) ?_
                rintro _ _ ⟨rfl, h15⟩
                refine ⟨rfl, ?_⟩
                rcases h15 with ⟨v_h15, rfl, h15r, h15⟩
                refine go_if (k := 1) (p1 := 93) (p2 := 90) (L' := [some (.inr (.inr (some 79)))]) (st' := []) (w' := (SH, dt)) (fun _ => rfl) (z_eq (a := v_h15) ⟨by omega, by omega⟩) (fun c16 => ?_) (fun c16 => ?_)
                · skip
                  refine go_to (k := 2) (pc' := 96) (L' := [some (.inr (.inr (some 79)))]) (st' := [.inr (.inr (some 1020)), .inr (.inr (some 79))]) (w' := (SH, dt)) (fun _ => rfl) ?_
                  refine go_call (Q' := _) rfl rfl rfl rfl rfl (sp_X6_is_1020 L xs sio (d + 0) dt hI   ) ?_
                  rintro _ _ ⟨rfl, h17⟩
                  refine ⟨rfl, ?_⟩
                  rcases h17 with ⟨v_h17, rfl, h17r, h17⟩
                  refine go_if (k := 1) (p1 := 105) (p2 := 102) (L' := [some (.inr (.inr (some 79)))]) (st' := []) (w' := (SH, dt)) (fun _ => rfl) (z_eq (a := v_h17) ⟨by omega, by omega⟩) (fun c18 => ?_) (fun c18 => ?_)
                  · skip
                    refine go_to (k := 2) (pc' := 108) (L' := [some (.inr (.inr (some 79)))]) (st' := [.inr (.inr (some 1021)), .inr (.inr (some 79))]) (w' := (SH, dt)) (fun _ => rfl) ?_
                    refine go_call (Q' := _) rfl rfl rfl rfl rfl (sp_X6_is_1021 L xs sio (d + 0) dt hI   ) ?_
                    rintro _ _ ⟨rfl, h19⟩
                    refine ⟨rfl, ?_⟩
                    rcases h19 with ⟨v_h19, rfl, h19r, h19⟩
                    refine go_if (k := 1) (p1 := 117) (p2 := 114) (L' := [some (.inr (.inr (some 79)))]) (st' := []) (w' := (SH, dt)) (fun _ => rfl) (z_eq (a := v_h19) ⟨by omega, by omega⟩) (fun c20 => ?_) (fun c20 => ?_)
                    · skip
                      refine go_to (k := 2) (pc' := 120) (L' := [some (.inr (.inr (some 79)))]) (st' := [.inr (.inr (some 1022)), .inr (.inr (some 79))]) (w' := (SH, dt)) (fun _ => rfl) ?_
                      refine go_call (Q' := _) rfl rfl rfl rfl rfl (sp_X6_is_1022 L xs sio (d + 0) dt hI   ) ?_
                      rintro _ _ ⟨rfl, h21⟩
                      refine ⟨rfl, ?_⟩
                      rcases h21 with ⟨v_h21, rfl, h21r, h21⟩
                      refine go_if (k := 1) (p1 := 129) (p2 := 126) (L' := [some (.inr (.inr (some 79)))]) (st' := []) (w' := (SH, dt)) (fun _ => rfl) (z_eq (a := v_h21) ⟨by omega, by omega⟩) (fun c22 => ?_) (fun c22 => ?_)
                      · skip
                        refine go_to (k := 2) (pc' := 132) (L' := [some (.inr (.inr (some 79)))]) (st' := [.inr (.inr (some 1023)), .inr (.inr (some 79))]) (w' := (SH, dt)) (fun _ => rfl) ?_
                        refine go_call (Q' := _) rfl rfl rfl rfl rfl (sp_X6_is_1023 L xs sio (d + 0) dt hI   ) ?_
                        rintro _ _ ⟨rfl, h23⟩
                        refine ⟨rfl, ?_⟩
                        rcases h23 with ⟨v_h23, rfl, h23r, h23⟩
                        have j25 : ∀ (j25_s0 : Int) (i26 : 1 ≤ j25_s0 ∧ j25_s0 ≤ 46), GO (am_XX L xs sio) (d + 5) 158 144 [some (.inr (.inr (some 79)))] [.inl j25_s0] (SH, dt) (fun r w2 => w2 = (SH, dt) ∧ ((∃ v : Int, r = some (.inl v) ∧ (1 ≤ v ∧ v ≤ 46) ∧ True))) := by
                          intro j25_s0 i26
                          refine go_ret (k := 1) (r := some (.inl j25_s0)) (w1 := (SH, dt)) (fun _ => rfl) ?_
                          exact ⟨rfl, ⟨_, rfl, ⟨by omega, by omega⟩, trivial⟩⟩
                        refine go_if (k := 1) (p1 := 143) (p2 := 138) (L' := [some (.inr (.inr (some 79)))]) (st' := []) (w' := (SH, dt)) (fun _ => rfl) (z_eq (a := v_h23) ⟨by omega, by omega⟩) (fun c27 => ?_) (fun c27 => ?_)
                        · skip
                          refine go_to (k := 1) (pc' := 144) (L' := [some (.inr (.inr (some 79)))]) (st' := [.inl 1]) (w' := (SH, dt)) (fun _ => rfl) ?_
                          exact GO.le (j25 1 (by omega)) ⟨.inl rfl, trivial⟩
                        · skip
                          refine go_to (k := 2) (pc' := 144) (L' := [some (.inr (.inr (some 79)))]) (st' := [.inl 46]) (w' := (SH, dt)) (fun _ => rfl) ?_
                          exact GO.le (j25 46 (by omega)) ⟨.inl rfl, trivial⟩
                      · skip
                        refine go_ret (k := 2) (r := some (.inl 45)) (w1 := (SH, dt)) (fun _ => rfl) ?_
                        exact ⟨rfl, ⟨_, rfl, ⟨by omega, by omega⟩, trivial⟩⟩
                    · skip
                      refine go_ret (k := 2) (r := some (.inl 44)) (w1 := (SH, dt)) (fun _ => rfl) ?_
                      exact ⟨rfl, ⟨_, rfl, ⟨by omega, by omega⟩, trivial⟩⟩
                  · skip
                    refine go_ret (k := 2) (r := some (.inl 43)) (w1 := (SH, dt)) (fun _ => rfl) ?_
                    exact ⟨rfl, ⟨_, rfl, ⟨by omega, by omega⟩, trivial⟩⟩
                · skip
                  refine go_ret (k := 2) (r := some (.inl 42)) (w1 := (SH, dt)) (fun _ => rfl) ?_
                  exact ⟨rfl, ⟨_, rfl, ⟨by omega, by omega⟩, trivial⟩⟩
              · skip
                refine go_ret (k := 2) (r := some (.inl 41)) (w1 := (SH, dt)) (fun _ => rfl) ?_
                exact ⟨rfl, ⟨_, rfl, ⟨by omega, by omega⟩, trivial⟩⟩
            · skip
              refine go_ret (k := 2) (r := some (.inl 6)) (w1 := (SH, dt)) (fun _ => rfl) ?_
              exact ⟨rfl, ⟨_, rfl, ⟨by omega, by omega⟩, trivial⟩⟩
          · skip
            refine go_ret (k := 2) (r := some (.inl 5)) (w1 := (SH, dt)) (fun _ => rfl) ?_
            exact ⟨rfl, ⟨_, rfl, ⟨by omega, by omega⟩, trivial⟩⟩
        · skip
          refine go_ret (k := 2) (r := some (.inl 4)) (w1 := (SH, dt)) (fun _ => rfl) ?_
          exact ⟨rfl, ⟨_, rfl, ⟨by omega, by omega⟩, trivial⟩⟩
      · skip
        refine go_ret (k := 2) (r := some (.inl 3)) (w1 := (SH, dt)) (fun _ => rfl) ?_
        exact ⟨rfl, ⟨_, rfl, ⟨by omega, by omega⟩, trivial⟩⟩
    · skip
      refine go_ret (k := 2) (r := some (.inl 8)) (w1 := (SH, dt)) (fun _ => rfl) ?_
      exact ⟨rfl, ⟨_, rfl, ⟨by omega, by omega⟩, trivial⟩⟩
  · skip
    refine go_ret (k := 2) (r := some (.inl 7)) (w1 := (SH, dt)) (fun _ => rfl) ?_
    exact ⟨rfl, ⟨_, rfl, ⟨by omega, by omega⟩, trivial⟩⟩
set_option maxRecDepth 20000 in
theorem sp_X6_next0 (L : Nat) (xs : Nat → Int32) (sio : Option Nat) (d : Nat) (dt : Nat → Nat → Int) (hI : InvC dt)    : GO (am_XX L xs sio) (d + 6) 159 0 [some (.inr (.inr (some 79))), none, none] [] (SH, dt) (fun r w2 => ∃ dt2 : Nat → Nat → Int, w2 = (SH, dt2) ∧ InvC dt2 ∧ Fr [79] dt dt2 ∧ ((r = none ∧ (dt 79 13 ≤ dt2 79 15) ∧ (¬ dt2 79 14 = 0 → dt2 79 15 + 1 ≤ dt2 79 13) ∧ (dt2 79 15 ≤ dt2 79 13) ∧ (dt2 79 2 = dt 79 2) ∧ (dt2 79 9 = dt 79 9) ∧ (dt2 79 10 = dt 79 10) ∧ (dt2 79 11 = dt 79 11) ∧ (dt2 79 12 = dt 79 12) ∧ (dt2 79 20 = dt 79 20)))) := by
  have hF : Fr [79] dt dt := Fr_refl
  have r1 : 0 ≤ dt 79 13 ∧ dt 79 13 ≤ 501 := InvC_get hI 79 13 rfl rfl
  have r2 : 0 ≤ dt 79 12 ∧ dt 79 12 ≤ 500 := InvC_get hI 79 12 rfl rfl
  have loop43 : ∀ (k_ : Nat) (dt33 : Nat → Nat → Int) (hI34 : InvC dt33) (hF35 : Fr [79] dt dt33) (i36 : dt 79 13 ≤ dt33 79 13 ∧ dt33 79 13 ≤ 501) (i37 : dt33 79 2 = dt 79 2) (i38 : dt33 79 9 = dt 79 9) (i39 : dt33 79 10 = dt 79 10) (i40 : dt33 79 11 = dt 79 11) (i41 : dt33 79 12 = dt 79 12) (i42 : dt33 79 20 = dt 79 20), (502 - dt33 79 13).toNat < k_ → GO (am_XX L xs sio) (d + 6) 159 0 [some (.inr (.inr (some 79))), none, none] [] (SH, dt33) (fun r w2 => ∃ dt2 : Nat → Nat → Int, w2 = (SH, dt2) ∧ InvC dt2 ∧ Fr [79] dt dt2 ∧ ((r = none ∧ (dt 79 13 ≤ dt2 79 15) ∧ (¬ dt2 79 14 = 0 → dt2 79 15 + 1 ≤ dt2 79 13) ∧ (dt2 79 15 ≤ dt2 79 13) ∧ (dt2 79 2 = dt 79 2) ∧ (dt2 79 9 = dt 79 9) ∧ (dt2 79 10 = dt 79 10) ∧ (dt2 79 11 = dt 79 11) ∧ (dt2 79 12 = dt 79 12) ∧ (dt2 79 20 = dt 79 20)))) := by
    intro k_
    induction k_ with
    | zero => intro dt33 hI34 hF35 i36 i37 i38 i39 i40 i41 i42 hm; exact absurd hm (Nat.not_lt_zero _)
    | succ k_ ih_loop43 =>
      intro dt33 hI34 hF35 i36 i37 i38 i39 i40 i41 i42 hm
      have r44 : 0 ≤ dt33 79 13 ∧ dt33 79 13 ≤ 501 := InvC_get hI34 79 13 rfl rfl
      refine go_to (k := 3) (pc' := 5) (L' := [some (.inr (.inr (some 79))), none, none]) (st' := [.inl (dt33 79 13), .inr (.inr (some 79))]) (w' := (SH, dt33)) (fun _ => rfl) ?_
      refine go_call (Q' := _) rfl rfl rfl rfl rfl (sp_X6_see L xs sio (d + 5) dt33 hI34  (dt33 79 13) ⟨by omega, by omega⟩ ) ?_
      rintro _ _ ⟨rfl, h45⟩
      refine ⟨rfl, ?_⟩
      rcases h45 with ⟨v_h45, rfl, h45r, h45⟩
      refine go_if (k := 2) (p1 := 26) (p2 := 13) (L' := [some (.inr (.inr (some 79))), none, none]) (st' := []) (w' := (SH, dt33)) (fun _ => rfl) (c_eq (a := v_h45) (b := 32) ⟨by omega, by omega⟩ ⟨by omega, by omega⟩) (fun c59 => ?_) (fun c59 => ?_)
      · skip
        refine go_to (k := 5) (pc' := 33) (L' := [some (.inr (.inr (some 79))), none, none]) (st' := [.inl ((dt33 79 13) + 1), .inr (.inr (some 79))]) (w' := (SH, dt33)) (fun _ => rfl) ?_
        have hI60 : InvC (u2 dt33 79 13 ((dt33 79 13) + 1)) := InvC_u2 hI34 (lo := 0) (hi := 501) rfl rfl rfl (by omega) (by omega)
        have hF61 : Fr [79] dt (u2 dt33 79 13 ((dt33 79 13) + 1)) := Fr_u2 hF35 (by decide)
        have w62 : (u2 dt33 79 13 ((dt33 79 13) + 1)) 79 13 = (dt33 79 13) + 1 := rfl
        have w63 : (u2 dt33 79 13 ((dt33 79 13) + 1)) 79 15 = dt33 79 15 := rfl
        have w64 : (u2 dt33 79 13 ((dt33 79 13) + 1)) 79 14 = dt33 79 14 := rfl
        have w65 : (u2 dt33 79 13 ((dt33 79 13) + 1)) 79 16 = dt33 79 16 := rfl
        have w66 : (u2 dt33 79 13 ((dt33 79 13) + 1)) 79 2 = dt33 79 2 := rfl
        have w67 : (u2 dt33 79 13 ((dt33 79 13) + 1)) 79 9 = dt33 79 9 := rfl
        have w68 : (u2 dt33 79 13 ((dt33 79 13) + 1)) 79 10 = dt33 79 10 := rfl
        have w69 : (u2 dt33 79 13 ((dt33 79 13) + 1)) 79 11 = dt33 79 11 := rfl
        have w70 : (u2 dt33 79 13 ((dt33 79 13) + 1)) 79 12 = dt33 79 12 := rfl
        have w71 : (u2 dt33 79 13 ((dt33 79 13) + 1)) 79 20 = dt33 79 20 := rfl
        refine go_smp (L' := [some (.inr (.inr (some 79))), none, none]) (st' := []) (w' := (SH, (u2 dt33 79 13 ((dt33 79 13) + 1)))) rfl rfl (s_pf rfl rfl rfl rfl ⟨by omega, by omega⟩) ?_
        refine go_to (k := 1) (pc' := 0) (L' := [some (.inr (.inr (some 79))), none, none]) (st' := []) (w' := (SH, (u2 dt33 79 13 ((dt33 79 13) + 1)))) (fun _ => rfl) ?_
        exact GO.le (ih_loop43  (u2 dt33 79 13 ((dt33 79 13) + 1)) hI60 hF61 (by omega) (by omega) (by omega) (by omega) (by omega) (by omega) (by omega) (by omega)) ⟨.inl rfl, .inl rfl, .inl rfl, trivial⟩
      · skip
        refine go_to (k := 3) (pc' := 18) (L' := [some (.inr (.inr (some 79))), none, none]) (st' := [.inl (dt33 79 13), .inr (.inr (some 79))]) (w' := (SH, dt33)) (fun _ => rfl) ?_
        refine go_call (Q' := _) rfl rfl rfl rfl rfl (sp_X6_see L xs sio (d + 5) dt33 hI34  (dt33 79 13) ⟨by omega, by omega⟩ ) ?_
        rintro _ _ ⟨rfl, h72⟩
        refine ⟨rfl, ?_⟩
        rcases h72 with ⟨v_h72, rfl, h72r, h72⟩
        refine go_if (k := 2) (p1 := 39) (p2 := 26) (L' := [some (.inr (.inr (some 79))), none, none]) (st' := []) (w' := (SH, dt33)) (fun _ => rfl) (c_ne (a := v_h72) (b := 10) ⟨by omega, by omega⟩ ⟨by omega, by omega⟩) (fun c86 => ?_) (fun c86 => ?_)
        · skip
          refine go_to (k := 3) (pc' := 44) (L' := [some (.inr (.inr (some 79))), none, none]) (st' := [.inl (dt33 79 13), .inr (.inr (some 79))]) (w' := (SH, dt33)) (fun _ => rfl) ?_
          have hI87 : InvC (u2 dt33 79 15 (dt33 79 13)) := InvC_u2 hI34 (lo := 0) (hi := 500) rfl rfl rfl (by omega) (by omega)
          have hF88 : Fr [79] dt (u2 dt33 79 15 (dt33 79 13)) := Fr_u2 hF35 (by decide)
          have w89 : (u2 dt33 79 15 (dt33 79 13)) 79 13 = dt33 79 13 := rfl
          have w90 : (u2 dt33 79 15 (dt33 79 13)) 79 15 = dt33 79 13 := rfl
          have w91 : (u2 dt33 79 15 (dt33 79 13)) 79 14 = dt33 79 14 := rfl
          have w92 : (u2 dt33 79 15 (dt33 79 13)) 79 16 = dt33 79 16 := rfl
          have w93 : (u2 dt33 79 15 (dt33 79 13)) 79 2 = dt33 79 2 := rfl
          have w94 : (u2 dt33 79 15 (dt33 79 13)) 79 9 = dt33 79 9 := rfl
          have w95 : (u2 dt33 79 15 (dt33 79 13)) 79 10 = dt33 79 10 := rfl
          have w96 : (u2 dt33 79 15 (dt33 79 13)) 79 11 = dt33 79 11 := rfl
          have w97 : (u2 dt33 79 15 (dt33 79 13)) 79 12 = dt33 79 12 := rfl
          have w98 : (u2 dt33 79 15 (dt33 79 13)) 79 20 = dt33 79 20 := rfl
          refine go_smp (L' := [some (.inr (.inr (some 79))), none, none]) (st' := []) (w' := (SH, (u2 dt33 79 15 (dt33 79 13)))) rfl rfl (s_pf rfl rfl rfl rfl ⟨by omega, by omega⟩) ?_
          refine go_to (k := 3) (pc' := 52) (L' := [some (.inr (.inr (some 79))), none, none]) (st' := [.inl (dt33 79 13), .inr (.inr (some 79))]) (w' := (SH, (u2 dt33 79 15 (dt33 79 13)))) (fun _ => rfl) ?_
          refine go_call (Q' := _) rfl rfl rfl rfl rfl (sp_X6_see L xs sio (d + 5) (u2 dt33 79 15 (dt33 79 13)) hI87  (dt33 79 13) ⟨by omega, by omega⟩ ) ?_
          rintro _ _ ⟨rfl, h99⟩
          refine ⟨rfl, ?_⟩
          rcases h99 with ⟨v_h99, rfl, h99r, h99⟩
          have j325 : ∀ (j325_d : Nat → Nat → Int) (j325_hI : InvC j325_d) (j325_hF : Fr [79] dt j325_d) (i326 : j325_d 79 2 = dt 79 2) (i327 : j325_d 79 9 = dt 79 9) (i328 : j325_d 79 10 = dt 79 10) (i329 : j325_d 79 11 = dt 79 11) (i330 : j325_d 79 12 = dt 79 12) (i331 : j325_d 79 20 = dt 79 20), GO (am_XX L xs sio) (d + 6) 159 320 [some (.inr (.inr (some 79))), none, none] [] (SH, j325_d) (fun r w2 => ∃ dt2 : Nat → Nat → Int, w2 = (SH, dt2) ∧ InvC dt2 ∧ Fr [79] dt dt2 ∧ ((r = none ∧ (dt 79 13 ≤ dt2 79 15) ∧ (¬ dt2 79 14 = 0 → dt2 79 15 + 1 ≤ dt2 79 13) ∧ (dt2 79 15 ≤ dt2 79 13) ∧ (dt2 79 2 = dt 79 2) ∧ (dt2 79 9 = dt 79 9) ∧ (dt2 79 10 = dt 79 10) ∧ (dt2 79 11 = dt 79 11) ∧ (dt2 79 12 = dt 79 12) ∧ (dt2 79 20 = dt 79 20)))) := by
            intro j325_d j325_hI j325_hF i326 i327 i328 i329 i330 i331
            refine go_ret (k := 1) (r := none) (w1 := (SH, j325_d)) (fun _ => rfl) ?_
            exact ⟨j325_d, rfl, j325_hI, j325_hF, ⟨rfl, ⟨by first | trivial | omega, by first | trivial | omega, by first | trivial | omega, by first | trivial | omega, by first | trivial | omega, by first | trivial | omega, by first | trivial | omega, by first | trivial | omega, by first | trivial | omega⟩⟩⟩
          refine go_if (k := 4) (p1 := 69) (p2 := 61) (L' := [some (.inr (.inr (some 79))), some (.inl v_h99), none]) (st' := []) (w' := (SH, (u2 dt33 79 15 (dt33 79 13)))) (fun _ => rfl) (c_ne (a := v_h99) (b := (-1)) ⟨by omega, by omega⟩ ⟨by omega, by omega⟩) (fun c332 => ?_) (fun c332 => ?_)
          · skip
            refine go_to (k := 1) (pc' := 70) (L' := [some (.inr (.inr (some 79))), some (.inl v_h99), none]) (st' := [.inl v_h99]) (w' := (SH, (u2 dt33 79 15 (dt33 79 13)))) (fun _ => rfl) ?_
            refine go_call (Q' := _) rfl rfl rfl rfl rfl (sp_X6_isLetter L xs sio (d + 4) (u2 dt33 79 15 (dt33 79 13)) hI87  v_h99 ⟨by omega, by omega⟩ ) ?_
            rintro _ _ ⟨rfl, h333⟩
            refine ⟨rfl, ?_⟩
            rcases h333 with ⟨v_h333, rfl, h333r, h333⟩
            refine go_if (k := 1) (p1 := 128) (p2 := 76) (L' := [some (.inr (.inr (some 79))), some (.inl v_h99), none]) (st' := []) (w' := (SH, (u2 dt33 79 15 (dt33 79 13)))) (fun _ => rfl) (z_eq (a := v_h333) ⟨by omega, by omega⟩) (fun c334 => ?_) (fun c334 => ?_)
            · skip
              refine go_to (k := 1) (pc' := 129) (L' := [some (.inr (.inr (some 79))), some (.inl v_h99), none]) (st' := [.inl v_h99]) (w' := (SH, (u2 dt33 79 15 (dt33 79 13)))) (fun _ => rfl) ?_
              refine go_call (Q' := _) rfl rfl rfl rfl rfl (sp_X6_isDigit L xs sio (d + 4) (u2 dt33 79 15 (dt33 79 13)) hI87  v_h99 ⟨by omega, by omega⟩ ) ?_
              rintro _ _ ⟨rfl, h335⟩
              refine ⟨rfl, ?_⟩
              rcases h335 with ⟨v_h335, rfl, h335r, h335⟩
              refine go_if (k := 1) (p1 := 228) (p2 := 135) (L' := [some (.inr (.inr (some 79))), some (.inl v_h99), none]) (st' := []) (w' := (SH, (u2 dt33 79 15 (dt33 79 13)))) (fun _ => rfl) (z_eq (a := v_h335) ⟨by omega, by omega⟩) (fun c336 => ?_) (fun c336 => ?_)
              · skip
                refine go_to (k := 5) (pc' := 235) (L' := [some (.inr (.inr (some 79))), some (.inl v_h99), none]) (st' := [.inl ((dt33 79 13) + 1), .inr (.inr (some 79))]) (w' := (SH, (u2 dt33 79 15 (dt33 79 13)))) (fun _ => rfl) ?_
                have hI337 : InvC (u2 (u2 dt33 79 15 (dt33 79 13)) 79 13 ((dt33 79 13) + 1)) := InvC_u2 hI87 (lo := 0) (hi := 501) rfl rfl rfl (by omega) (by omega)
                have hF338 : Fr [79] dt (u2 (u2 dt33 79 15 (dt33 79 13)) 79 13 ((dt33 79 13) + 1)) := Fr_u2 hF88 (by decide)
                have w339 : (u2 (u2 dt33 79 15 (dt33 79 13)) 79 13 ((dt33 79 13) + 1)) 79 13 = (dt33 79 13) + 1 := rfl
                have w340 : (u2 (u2 dt33 79 15 (dt33 79 13)) 79 13 ((dt33 79 13) + 1)) 79 15 = (u2 dt33 79 15 (dt33 79 13)) 79 15 := rfl
                have w341 : (u2 (u2 dt33 79 15 (dt33 79 13)) 79 13 ((dt33 79 13) + 1)) 79 14 = (u2 dt33 79 15 (dt33 79 13)) 79 14 := rfl
                have w342 : (u2 (u2 dt33 79 15 (dt33 79 13)) 79 13 ((dt33 79 13) + 1)) 79 16 = (u2 dt33 79 15 (dt33 79 13)) 79 16 := rfl
                have w343 : (u2 (u2 dt33 79 15 (dt33 79 13)) 79 13 ((dt33 79 13) + 1)) 79 2 = (u2 dt33 79 15 (dt33 79 13)) 79 2 := rfl
                have w344 : (u2 (u2 dt33 79 15 (dt33 79 13)) 79 13 ((dt33 79 13) + 1)) 79 9 = (u2 dt33 79 15 (dt33 79 13)) 79 9 := rfl
                have w345 : (u2 (u2 dt33 79 15 (dt33 79 13)) 79 13 ((dt33 79 13) + 1)) 79 10 = (u2 dt33 79 15 (dt33 79 13)) 79 10 := rfl
                have w346 : (u2 (u2 dt33 79 15 (dt33 79 13)) 79 13 ((dt33 79 13) + 1)) 79 11 = (u2 dt33 79 15 (dt33 79 13)) 79 11 := rfl
                have w347 : (u2 (u2 dt33 79 15 (dt33 79 13)) 79 13 ((dt33 79 13) + 1)) 79 12 = (u2 dt33 79 15 (dt33 79 13)) 79 12 := rfl
                have w348 : (u2 (u2 dt33 79 15 (dt33 79 13)) 79 13 ((dt33 79 13) + 1)) 79 20 = (u2 dt33 79 15 (dt33 79 13)) 79 20 := rfl
                refine go_smp (L' := [some (.inr (.inr (some 79))), some (.inl v_h99), none]) (st' := []) (w' := (SH, (u2 (u2 dt33 79 15 (dt33 79 13)) 79 13 ((dt33 79 13) + 1)))) rfl rfl (s_pf rfl rfl rfl rfl ⟨by omega, by omega⟩) ?_
                have j359 : ∀ (i360 : 40 ≤ v_h99 ∧ v_h99 ≤ 62), GO (am_XX L xs sio) (d + 6) 159 303 [some (.inr (.inr (some 79))), some (.inl v_h99), none] [.inl 1] (SH, (u2 (u2 dt33 79 15 (dt33 79 13)) 79 13 ((dt33 79 13) + 1))) (fun r w2 => ∃ dt2 : Nat → Nat → Int, w2 = (SH, dt2) ∧ InvC dt2 ∧ Fr [79] dt dt2 ∧ ((r = none ∧ (dt 79 13 ≤ dt2 79 15) ∧ (¬ dt2 79 14 = 0 → dt2 79 15 + 1 ≤ dt2 79 13) ∧ (dt2 79 15 ≤ dt2 79 13) ∧ (dt2 79 2 = dt 79 2) ∧ (dt2 79 9 = dt 79 9) ∧ (dt2 79 10 = dt 79 10) ∧ (dt2 79 11 = dt 79 11) ∧ (dt2 79 12 = dt 79 12) ∧ (dt2 79 20 = dt 79 20)))) := by
                  intro i360
                  refine go_to (k := 8) (pc' := 317) (L' := [some (.inr (.inr (some 79))), some (.inl v_h99), some (.inl 1)]) (st' := [.inl (100 + v_h99), .inr (.inr (some 79))]) (w' := (SH, (u2 (u2 dt33 79 15 (dt33 79 13)) 79 13 ((dt33 79 13) + 1)))) (fun _ => rfl) ?_
                  have hI361 : InvC (u2 (u2 (u2 dt33 79 15 (dt33 79 13)) 79 13 ((dt33 79 13) + 1)) 79 14 (100 + v_h99)) := InvC_u2 hI337 (lo := -2147483648) (hi := 2147483647) rfl rfl rfl (by omega) (by omega)
                  have hF362 : Fr [79] dt (u2 (u2 (u2 dt33 79 15 (dt33 79 13)) 79 13 ((dt33 79 13) + 1)) 79 14 (100 + v_h99)) := Fr_u2 hF338 (by decide)
                  have w363 : (u2 (u2 (u2 dt33 79 15 (dt33 79 13)) 79 13 ((dt33 79 13) + 1)) 79 14 (100 + v_h99)) 79 13 = (u2 (u2 dt33 79 15 (dt33 79 13)) 79 13 ((dt33 79 13) + 1)) 79 13 := rfl
                  have w364 : (u2 (u2 (u2 dt33 79 15 (dt33 79 13)) 79 13 ((dt33 79 13) + 1)) 79 14 (100 + v_h99)) 79 15 = (u2 (u2 dt33 79 15 (dt33 79 13)) 79 13 ((dt33 79 13) + 1)) 79 15 := rfl
                  have w365 : (u2 (u2 (u2 dt33 79 15 (dt33 79 13)) 79 13 ((dt33 79 13) + 1)) 79 14 (100 + v_h99)) 79 14 = 100 + v_h99 := rfl
                  have w366 : (u2 (u2 (u2 dt33 79 15 (dt33 79 13)) 79 13 ((dt33 79 13) + 1)) 79 14 (100 + v_h99)) 79 16 = (u2 (u2 dt33 79 15 (dt33 79 13)) 79 13 ((dt33 79 13) + 1)) 79 16 := rfl
                  have w367 : (u2 (u2 (u2 dt33 79 15 (dt33 79 13)) 79 13 ((dt33 79 13) + 1)) 79 14 (100 + v_h99)) 79 2 = (u2 (u2 dt33 79 15 (dt33 79 13)) 79 13 ((dt33 79 13) + 1)) 79 2 := rfl
                  have w368 : (u2 (u2 (u2 dt33 79 15 (dt33 79 13)) 79 13 ((dt33 79 13) + 1)) 79 14 (100 + v_h99)) 79 9 = (u2 (u2 dt33 79 15 (dt33 79 13)) 79 13 ((dt33 79 13) + 1)) 79 9 := rfl
                  have w369 : (u2 (u2 (u2 dt33 79 15 (dt33 79 13)) 79 13 ((dt33 79 13) + 1)) 79 14 (100 + v_h99)) 79 10 = (u2 (u2 dt33 79 15 (dt33 79 13)) 79 13 ((dt33 79 13) + 1)) 79 10 := rfl
                  have w370 : (u2 (u2 (u2 dt33 79 15 (dt33 79 13)) 79 13 ((dt33 79 13) + 1)) 79 14 (100 + v_h99)) 79 11 = (u2 (u2 dt33 79 15 (dt33 79 13)) 79 13 ((dt33 79 13) + 1)) 79 11 := rfl
                  have w371 : (u2 (u2 (u2 dt33 79 15 (dt33 79 13)) 79 13 ((dt33 79 13) + 1)) 79 14 (100 + v_h99)) 79 12 = (u2 (u2 dt33 79 15 (dt33 79 13)) 79 13 ((dt33 79 13) + 1)) 79 12 := rfl
                  have w372 : (u2 (u2 (u2 dt33 79 15 (dt33 79 13)) 79 13 ((dt33 79 13) + 1)) 79 14 (100 + v_h99)) 79 20 = (u2 (u2 dt33 79 15 (dt33 79 13)) 79 13 ((dt33 79 13) + 1)) 79 20 := rfl
                  refine go_smp (L' := [some (.inr (.inr (some 79))), some (.inl v_h99), some (.inl 1)]) (st' := []) (w' := (SH, (u2 (u2 (u2 dt33 79 15 (dt33 79 13)) 79 13 ((dt33 79 13) + 1)) 79 14 (100 + v_h99)))) rfl rfl (s_pf rfl rfl rfl rfl ⟨by omega, by omega⟩) ?_
                  exact GO.le (j325 (u2 (u2 (u2 dt33 79 15 (dt33 79 13)) 79 13 ((dt33 79 13) + 1)) 79 14 (100 + v_h99)) hI361 hF362 (by omega) (by omega) (by omega) (by omega) (by omega) (by omega)) ⟨.inl rfl, .inr ⟨rfl, trivial⟩, .inr ⟨rfl, trivial⟩, trivial⟩
                refine go_if (k := 3) (p1 := 298) (p2 := 244) (L' := [some (.inr (.inr (some 79))), some (.inl v_h99), none]) (st' := []) (w' := (SH, (u2 (u2 dt33 79 15 (dt33 79 13)) 79 13 ((dt33 79 13) + 1)))) (fun _ => rfl) (c_eq (a := v_h99) (b := 59) ⟨by omega, by omega⟩ ⟨by omega, by omega⟩) (fun c373 => ?_) (fun c373 => ?_)
                · skip
                  refine go_to (k := 2) (pc' := 303) (L' := [some (.inr (.inr (some 79))), some (.inl v_h99), none]) (st' := [.inl 1]) (w' := (SH, (u2 (u2 dt33 79 15 (dt33 79 13)) 79 13 ((dt33 79 13) + 1)))) (fun _ => rfl) ?_
                  exact GO.le (j359 (by omega)) ⟨.inl rfl, .inl rfl, .inl rfl, trivial⟩
                · skip
                  refine go_if (k := 3) (p1 := 298) (p2 := 250) (L' := [some (.inr (.inr (some 79))), some (.inl v_h99), none]) (st' := []) (w' := (SH, (u2 (u2 dt33 79 15 (dt33 79 13)) 79 13 ((dt33 79 13) + 1)))) (fun _ => rfl) (c_eq (a := v_h99) (b := 43) ⟨by omega, by omega⟩ ⟨by omega, by omega⟩) (fun c374 => ?_) (fun c374 => ?_)
                  · skip
                    refine go_to (k := 2) (pc' := 303) (L' := [some (.inr (.inr (some 79))), some (.inl v_h99), none]) (st' := [.inl 1]) (w' := (SH, (u2 (u2 dt33 79 15 (dt33 79 13)) 79 13 ((dt33 79 13) + 1)))) (fun _ => rfl) ?_
                    exact GO.le (j359 (by omega)) ⟨.inl rfl, .inl rfl, .inl rfl, trivial⟩
                  · skip
                    refine go_if (k := 3) (p1 := 298) (p2 := 256) (L' := [some (.inr (.inr (some 79))), some (.inl v_h99), none]) (st' := []) (w' := (SH, (u2 (u2 dt33 79 15 (dt33 79 13)) 79 13 ((dt33 79 13) + 1)))) (fun _ => rfl) (c_eq (a := v_h99) (b := 45) ⟨by omega, by omega⟩ ⟨by omega, by omega⟩) (fun c375 => ?_) (fun c375 => ?_)
                    · skip
                      refine go_to (k := 2) (pc' := 303) (L' := [some (.inr (.inr (some 79))), some (.inl v_h99), none]) (st' := [.inl 1]) (w' := (SH, (u2 (u2 dt33 79 15 (dt33 79 13)) 79 13 ((dt33 79 13) + 1)))) (fun _ => rfl) ?_
                      exact GO.le (j359 (by omega)) ⟨.inl rfl, .inl rfl, .inl rfl, trivial⟩
                    · skip
                      refine go_if (k := 3) (p1 := 298) (p2 := 262) (L' := [some (.inr (.inr (some 79))), some (.inl v_h99), none]) (st' := []) (w' := (SH, (u2 (u2 dt33 79 15 (dt33 79 13)) 79 13 ((dt33 79 13) + 1)))) (fun _ => rfl) (c_eq (a := v_h99) (b := 42) ⟨by omega, by omega⟩ ⟨by omega, by omega⟩) (fun c376 => ?_) (fun c376 => ?_)
                      · skip
                        refine go_to (k := 2) (pc' := 303) (L' := [some (.inr (.inr (some 79))), some (.inl v_h99), none]) (st' := [.inl 1]) (w' := (SH, (u2 (u2 dt33 79 15 (dt33 79 13)) 79 13 ((dt33 79 13) + 1)))) (fun _ => rfl) ?_
                        exact GO.le (j359 (by omega)) ⟨.inl rfl, .inl rfl, .inl rfl, trivial⟩
                      · skip
                        refine go_if (k := 3) (p1 := 298) (p2 := 268) (L' := [some (.inr (.inr (some 79))), some (.inl v_h99), none]) (st' := []) (w' := (SH, (u2 (u2 dt33 79 15 (dt33 79 13)) 79 13 ((dt33 79 13) + 1)))) (fun _ => rfl) (c_eq (a := v_h99) (b := 47) ⟨by omega, by omega⟩ ⟨by omega, by omega⟩) (fun c377 => ?_) (fun c377 => ?_)
                        · skip
                          refine go_to (k := 2) (pc' := 303) (L' := [some (.inr (.inr (some 79))), some (.inl v_h99), none]) (st' := [.inl 1]) (w' := (SH, (u2 (u2 dt33 79 15 (dt33 79 13)) 79 13 ((dt33 79 13) + 1)))) (fun _ => rfl) ?_
                          exact GO.le (j359 (by omega)) ⟨.inl rfl, .inl rfl, .inl rfl, trivial⟩
                        · skip
                          refine go_if (k := 3) (p1 := 298) (p2 := 274) (L' := [some (.inr (.inr (some 79))), some (.inl v_h99), none]) (st' := []) (w' := (SH, (u2 (u2 dt33 79 15 (dt33 79 13)) 79 13 ((dt33 79 13) + 1)))) (fun _ => rfl) (c_eq (a := v_h99) (b := 40) ⟨by omega, by omega⟩ ⟨by omega, by omega⟩) (fun c378 => ?_) (fun c378 => ?_)
                          · skip
                            refine go_to (k := 2) (pc' := 303) (L' := [some (.inr (.inr (some 79))), some (.inl v_h99), none]) (st' := [.inl 1]) (w' := (SH, (u2 (u2 dt33 79 15 (dt33 79 13)) 79 13 ((dt33 79 13) + 1)))) (fun _ => rfl) ?_
                            exact GO.le (j359 (by omega)) ⟨.inl rfl, .inl rfl, .inl rfl, trivial⟩
                          · skip
                            refine go_if (k := 3) (p1 := 298) (p2 := 280) (L' := [some (.inr (.inr (some 79))), some (.inl v_h99), none]) (st' := []) (w' := (SH, (u2 (u2 dt33 79 15 (dt33 79 13)) 79 13 ((dt33 79 13) + 1)))) (fun _ => rfl) (c_eq (a := v_h99) (b := 41) ⟨by omega, by omega⟩ ⟨by omega, by omega⟩) (fun c379 => ?_) (fun c379 => ?_)
                            · skip
                              refine go_to (k := 2) (pc' := 303) (L' := [some (.inr (.inr (some 79))), some (.inl v_h99), none]) (st' := [.inl 1]) (w' := (SH, (u2 (u2 dt33 79 15 (dt33 79 13)) 79 13 ((dt33 79 13) + 1)))) (fun _ => rfl) ?_
                              exact GO.le (j359 (by omega)) ⟨.inl rfl, .inl rfl, .inl rfl, trivial⟩
                            · skip
                              refine go_if (k := 3) (p1 := 298) (p2 := 286) (L' := [some (.inr (.inr (some 79))), some (.inl v_h99), none]) (st' := []) (w' := (SH, (u2 (u2 dt33 79 15 (dt33 79 13)) 79 13 ((dt33 79 13) + 1)))) (fun _ => rfl) (c_eq (a := v_h99) (b := 60) ⟨by omega, by omega⟩ ⟨by omega, by omega⟩) (fun c380 => ?_) (fun c380 => ?_)
                              · skip
                                refine go_to (k := 2) (pc' := 303) (L' := [some (.inr (.inr (some 79))), some (.inl v_h99), none]) (st' := [.inl 1]) (w' := (SH, (u2 (u2 dt33 79 15 (dt33 79 13)) 79 13 ((dt33 79 13) + 1)))) (fun _ => rfl) ?_
                                exact GO.le (j359 (by omega)) ⟨.inl rfl, .inl rfl, .inl rfl, trivial⟩
                              · skip
                                refine go_if (k := 3) (p1 := 298) (p2 := 292) (L' := [some (.inr (.inr (some 79))), some (.inl v_h99), none]) (st' := []) (w' := (SH, (u2 (u2 dt33 79 15 (dt33 79 13)) 79 13 ((dt33 79 13) + 1)))) (fun _ => rfl) (c_eq (a := v_h99) (b := 61) ⟨by omega, by omega⟩ ⟨by omega, by omega⟩) (fun c381 => ?_) (fun c381 => ?_)
                                · skip
                                  refine go_to (k := 2) (pc' := 303) (L' := [some (.inr (.inr (some 79))), some (.inl v_h99), none]) (st' := [.inl 1]) (w' := (SH, (u2 (u2 dt33 79 15 (dt33 79 13)) 79 13 ((dt33 79 13) + 1)))) (fun _ => rfl) ?_
                                  exact GO.le (j359 (by omega)) ⟨.inl rfl, .inl rfl, .inl rfl, trivial⟩
                                · skip
                                  refine go_if (k := 3) (p1 := 302) (p2 := 298) (L' := [some (.inr (.inr (some 79))), some (.inl v_h99), none]) (st' := []) (w' := (SH, (u2 (u2 dt33 79 15 (dt33 79 13)) 79 13 ((dt33 79 13) + 1)))) (fun _ => rfl) (c_ne (a := v_h99) (b := 62) ⟨by omega, by omega⟩ ⟨by omega, by omega⟩) (fun c382 => ?_) (fun c382 => ?_)
                                  · skip
                                    refine go_to (k := 6) (pc' := 317) (L' := [some (.inr (.inr (some 79))), some (.inl v_h99), some (.inl 0)]) (st' := [.inl 1, .inr (.inr (some 79))]) (w' := (SH, (u2 (u2 dt33 79 15 (dt33 79 13)) 79 13 ((dt33 79 13) + 1)))) (fun _ => rfl) ?_
                                    have hI383 : InvC (u2 (u2 (u2 dt33 79 15 (dt33 79 13)) 79 13 ((dt33 79 13) + 1)) 79 14 1) := InvC_u2 hI337 (lo := -2147483648) (hi := 2147483647) rfl rfl rfl (by omega) (by omega)
                                    have hF384 : Fr [79] dt (u2 (u2 (u2 dt33 79 15 (dt33 79 13)) 79 13 ((dt33 79 13) + 1)) 79 14 1) := Fr_u2 hF338 (by decide)
                                    have w385 : (u2 (u2 (u2 dt33 79 15 (dt33 79 13)) 79 13 ((dt33 79 13) + 1)) 79 14 1) 79 13 = (u2 (u2 dt33 79 15 (dt33 79 13)) 79 13 ((dt33 79 13) + 1)) 79 13 := rfl
                                    have w386 : (u2 (u2 (u2 dt33 79 15 (dt33 79 13)) 79 13 ((dt33 79 13) + 1)) 79 14 1) 79 15 = (u2 (u2 dt33 79 15 (dt33 79 13)) 79 13 ((dt33 79 13) + 1)) 79 15 := rfl
                                    have w387 : (u2 (u2 (u2 dt33 79 15 (dt33 79 13)) 79 13 ((dt33 79 13) + 1)) 79 14 1) 79 14 = 1 := rfl
                                    have w388 : (u2 (u2 (u2 dt33 79 15 (dt33 79 13)) 79 13 ((dt33 79 13) + 1)) 79 14 1) 79 16 = (u2 (u2 dt33 79 15 (dt33 79 13)) 79 13 ((dt33 79 13) + 1)) 79 16 := rfl
                                    have w389 : (u2 (u2 (u2 dt33 79 15 (dt33 79 13)) 79 13 ((dt33 79 13) + 1)) 79 14 1) 79 2 = (u2 (u2 dt33 79 15 (dt33 79 13)) 79 13 ((dt33 79 13) + 1)) 79 2 := rfl
                                    have w390 : (u2 (u2 (u2 dt33 79 15 (dt33 79 13)) 79 13 ((dt33 79 13) + 1)) 79 14 1) 79 9 = (u2 (u2 dt33 79 15 (dt33 79 13)) 79 13 ((dt33 79 13) + 1)) 79 9 := rfl
                                    have w391 : (u2 (u2 (u2 dt33 79 15 (dt33 79 13)) 79 13 ((dt33 79 13) + 1)) 79 14 1) 79 10 = (u2 (u2 dt33 79 15 (dt33 79 13)) 79 13 ((dt33 79 13) + 1)) 79 10 := rfl
                                    have w392 : (u2 (u2 (u2 dt33 79 15 (dt33 79 13)) 79 13 ((dt33 79 13) + 1)) 79 14 1) 79 11 = (u2 (u2 dt33 79 15 (dt33 79 13)) 79 13 ((dt33 79 13) + 1)) 79 11 := rfl
                                    have w393 : (u2 (u2 (u2 dt33 79 15 (dt33 79 13)) 79 13 ((dt33 79 13) + 1)) 79 14 1) 79 12 = (u2 (u2 dt33 79 15 (dt33 79 13)) 79 13 ((dt33 79 13) + 1)) 79 12 := rfl
                                    have w394 : (u2 (u2 (u2 dt33 79 15 (dt33 79 13)) 79 13 ((dt33 79 13) + 1)) 79 14 1) 79 20 = (u2 (u2 dt33 79 15 (dt33 79 13)) 79 13 ((dt33 79 13) + 1)) 79 20 := rfl
                                    refine go_smp (L' := [some (.inr (.inr (some 79))), some (.inl v_h99), some (.inl 0)]) (st' := []) (w' := (SH, (u2 (u2 (u2 dt33 79 15 (dt33 79 13)) 79 13 ((dt33 79 13) + 1)) 79 14 1))) rfl rfl (s_pf rfl rfl rfl rfl ⟨by omega, by omega⟩) ?_
                                    exact GO.le (j325 (u2 (u2 (u2 dt33 79 15 (dt33 79 13)) 79 13 ((dt33 79 13) + 1)) 79 14 1) hI383 hF384 (by omega) (by omega) (by omega) (by omega) (by omega) (by omega)) ⟨.inl rfl, .inr ⟨rfl, trivial⟩, .inr ⟨rfl, trivial⟩, trivial⟩
                                  · skip
                                    refine go_to (k := 2) (pc' := 303) (L' := [some (.inr (.inr (some 79))), some (.inl v_h99), none]) (st' := [.inl 1]) (w' := (SH, (u2 (u2 dt33 79 15 (dt33 79 13)) 79 13 ((dt33 79 13) + 1)))) (fun _ => rfl) ?_
                                    exact GO.le (j359 (by omega)) ⟨.inl rfl, .inl rfl, .inl rfl, trivial⟩
              · skip
                refine go_to (k := 2) (pc' := 137) (L' := [some (.inr (.inr (some 79))), some (.inl v_h99), none]) (st' := [.inl 0, .inr (.inr (some 79))]) (w' := (SH, (u2 dt33 79 15 (dt33 79 13)))) (fun _ => rfl) ?_
                have hI395 : InvC (u2 (u2 dt33 79 15 (dt33 79 13)) 79 16 0) := InvC_u2 hI87 (lo := 0) (hi := 9999) rfl rfl rfl (by omega) (by omega)
                have hF396 : Fr [79] dt (u2 (u2 dt33 79 15 (dt33 79 13)) 79 16 0) := Fr_u2 hF88 (by decide)
                have w397 : (u2 (u2 dt33 79 15 (dt33 79 13)) 79 16 0) 79 13 = (u2 dt33 79 15 (dt33 79 13)) 79 13 := rfl
                have w398 : (u2 (u2 dt33 79 15 (dt33 79 13)) 79 16 0) 79 15 = (u2 dt33 79 15 (dt33 79 13)) 79 15 := rfl
                have w399 : (u2 (u2 dt33 79 15 (dt33 79 13)) 79 16 0) 79 14 = (u2 dt33 79 15 (dt33 79 13)) 79 14 := rfl
                have w400 : (u2 (u2 dt33 79 15 (dt33 79 13)) 79 16 0) 79 16 = 0 := rfl
                have w401 : (u2 (u2 dt33 79 15 (dt33 79 13)) 79 16 0) 79 2 = (u2 dt33 79 15 (dt33 79 13)) 79 2 := rfl
                have w402 : (u2 (u2 dt33 79 15 (dt33 79 13)) 79 16 0) 79 9 = (u2 dt33 79 15 (dt33 79 13)) 79 9 := rfl
                have w403 : (u2 (u2 dt33 79 15 (dt33 79 13)) 79 16 0) 79 10 = (u2 dt33 79 15 (dt33 79 13)) 79 10 := rfl
                have w404 : (u2 (u2 dt33 79 15 (dt33 79 13)) 79 16 0) 79 11 = (u2 dt33 79 15 (dt33 79 13)) 79 11 := rfl
                have w405 : (u2 (u2 dt33 79 15 (dt33 79 13)) 79 16 0) 79 12 = (u2 dt33 79 15 (dt33 79 13)) 79 12 := rfl
                have w406 : (u2 (u2 dt33 79 15 (dt33 79 13)) 79 16 0) 79 20 = (u2 dt33 79 15 (dt33 79 13)) 79 20 := rfl
                refine go_smp (L' := [some (.inr (.inr (some 79))), some (.inl v_h99), none]) (st' := []) (w' := (SH, (u2 (u2 dt33 79 15 (dt33 79 13)) 79 16 0))) rfl rfl (s_pf rfl rfl rfl rfl ⟨by omega, by omega⟩) ?_
                have loop460 : ∀ (k_ : Nat) (dt442 : Nat → Nat → Int) (hI443 : InvC dt442) (hF444 : Fr [79] dt dt442) (i445 : dt442 79 15 ≤ dt442 79 13) (i446 : dt 79 13 ≤ dt442 79 15) (i447 : dt442 79 13 ≤ 501) (i448 : 0 ≤ dt442 79 16) (i449 : dt442 79 13 = dt442 79 15 → dt442 79 16 = 0) (i450 : dt442 79 13 = dt442 79 15 + 1 → dt442 79 16 ≤ 9) (i451 : dt442 79 13 = dt442 79 15 + 2 → dt442 79 16 ≤ 99) (i452 : dt442 79 13 = dt442 79 15 + 3 → dt442 79 16 ≤ 999) (i453 : dt442 79 16 ≤ 9999) (i454 : dt442 79 2 = dt 79 2) (i455 : dt442 79 9 = dt 79 9) (i456 : dt442 79 10 = dt 79 10) (i457 : dt442 79 11 = dt 79 11) (i458 : dt442 79 12 = dt 79 12) (i459 : dt442 79 20 = dt 79 20), (502 - dt442 79 13).toNat < k_ → GO (am_XX L xs sio) (d + 6) 159 140 [some (.inr (.inr (some 79))), none, none] [] (SH, dt442) (fun r w2 => ∃ dt2 : Nat → Nat → Int, w2 = (SH, dt2) ∧ InvC dt2 ∧ Fr [79] dt dt2 ∧ ((r = none ∧ (dt 79 13 ≤ dt2 79 15) ∧ (¬ dt2 79 14 = 0 → dt2 79 15 + 1 ≤ dt2 79 13) ∧ (dt2 79 15 ≤ dt2 79 13) ∧ (dt2 79 2 = dt 79 2) ∧ (dt2 79 9 = dt 79 9) ∧ (dt2 79 10 = dt 79 10) ∧ (dt2 79 11 = dt 79 11) ∧ (dt2 79 12 = dt 79 12) ∧ (dt2 79 20 = dt 79 20)))) := by
                  intro k_
                  induction k_ with
                  | zero => intro dt442 hI443 hF444 i445 i446 i447 i448 i449 i450 i451 i452 i453 i454 i455 i456 i457 i458 i459 hm; exact absurd hm (Nat.not_lt_zero _)
                  | succ k_ ih_loop460 =>
                    intro dt442 hI443 hF444 i445 i446 i447 i448 i449 i450 i451 i452 i453 i454 i455 i456 i457 i458 i459 hm
                    have r461 : 0 ≤ dt442 79 13 ∧ dt442 79 13 ≤ 501 := InvC_get hI443 79 13 rfl rfl
                    refine go_to (k := 3) (pc' := 145) (L' := [some (.inr (.inr (some 79))), none, none]) (st' := [.inl (dt442 79 13), .inr (.inr (some 79))]) (w' := (SH, dt442)) (fun _ => rfl) ?_
                    refine go_call (Q' := _) rfl rfl rfl rfl rfl (sp_X6_see L xs sio (d + 5) dt442 hI443  (dt442 79 13) ⟨by omega, by omega⟩ ) ?_
                    rintro _ _ ⟨rfl, h462⟩
                    refine ⟨rfl, ?_⟩
                    rcases h462 with ⟨v_h462, rfl, h462r, h462⟩
                    refine go_call (Q' := _) rfl rfl rfl rfl rfl (sp_X6_isDigit L xs sio (d + 4) dt442 hI443  v_h462 ⟨by omega, by omega⟩ ) ?_
                    rintro _ _ ⟨rfl, h463⟩
                    refine ⟨rfl, ?_⟩
                    rcases h463 with ⟨v_h463, rfl, h463r, h463⟩
                    refine go_if (k := 1) (p1 := 203) (p2 := 154) (L' := [some (.inr (.inr (some 79))), none, none]) (st' := []) (w' := (SH, dt442)) (fun _ => rfl) (z_eq (a := v_h463) ⟨by omega, by omega⟩) (fun c495 => ?_) (fun c495 => ?_)
                    · skip
                      have r496 : 0 ≤ dt442 79 15 ∧ dt442 79 15 ≤ 500 := InvC_get hI443 79 15 rfl rfl
                      refine go_if (k := 8) (p1 := 221) (p2 := 217) (L' := [some (.inr (.inr (some 79))), none, none]) (st' := [.inr (.inr (some 79))]) (w' := (SH, dt442)) (fun _ => rfl) (c_ge (a := (dt442 79 13) - (dt442 79 15)) (b := 5) ⟨by omega, by omega⟩ ⟨by omega, by omega⟩) (fun c498 => ?_) (fun c498 => ?_)
                      · skip
                        refine go_to (k := 1) (pc' := 222) (L' := [some (.inr (.inr (some 79))), none, none]) (st' := [.inl 1, .inr (.inr (some 79))]) (w' := (SH, dt442)) (fun _ => rfl) ?_
                        have hI499 : InvC (u2 dt442 79 14 1) := InvC_u2 hI443 (lo := -2147483648) (hi := 2147483647) rfl rfl rfl (by omega) (by omega)
                        have hF500 : Fr [79] dt (u2 dt442 79 14 1) := Fr_u2 hF444 (by decide)
                        have w501 : (u2 dt442 79 14 1) 79 13 = dt442 79 13 := rfl
                        have w502 : (u2 dt442 79 14 1) 79 15 = dt442 79 15 := rfl
                        have w503 : (u2 dt442 79 14 1) 79 14 = 1 := rfl
                        have w504 : (u2 dt442 79 14 1) 79 16 = dt442 79 16 := rfl
                        have w505 : (u2 dt442 79 14 1) 79 2 = dt442 79 2 := rfl
                        have w506 : (u2 dt442 79 14 1) 79 9 = dt442 79 9 := rfl
                        have w507 : (u2 dt442 79 14 1) 79 10 = dt442 79 10 := rfl
                        have w508 : (u2 dt442 79 14 1) 79 11 = dt442 79 11 := rfl
                        have w509 : (u2 dt442 79 14 1) 79 12 = dt442 79 12 := rfl
                        have w510 : (u2 dt442 79 14 1) 79 20 = dt442 79 20 := rfl
                        refine go_smp (L' := [some (.inr (.inr (some 79))), none, none]) (st' := []) (w' := (SH, (u2 dt442 79 14 1))) rfl rfl (s_pf rfl rfl rfl rfl ⟨by omega, by omega⟩) ?_
                        refine go_to (k := 1) (pc' := 320) (L' := [some (.inr (.inr (some 79))), none, none]) (st' := []) (w' := (SH, (u2 dt442 79 14 1))) (fun _ => rfl) ?_
                        exact GO.le (j325 (u2 dt442 79 14 1) hI499 hF500 (by omega) (by omega) (by omega) (by omega) (by omega) (by omega)) ⟨.inl rfl, .inl rfl, .inl rfl, trivial⟩
                      · skip
                        refine go_to (k := 2) (pc' := 222) (L' := [some (.inr (.inr (some 79))), none, none]) (st' := [.inl 2, .inr (.inr (some 79))]) (w' := (SH, dt442)) (fun _ => rfl) ?_
                        have hI511 : InvC (u2 dt442 79 14 2) := InvC_u2 hI443 (lo := -2147483648) (hi := 2147483647) rfl rfl rfl (by omega) (by omega)
                        have hF512 : Fr [79] dt (u2 dt442 79 14 2) := Fr_u2 hF444 (by decide)
                        have w513 : (u2 dt442 79 14 2) 79 13 = dt442 79 13 := rfl
                        have w514 : (u2 dt442 79 14 2) 79 15 = dt442 79 15 := rfl
                        have w515 : (u2 dt442 79 14 2) 79 14 = 2 := rfl
                        have w516 : (u2 dt442 79 14 2) 79 16 = dt442 79 16 := rfl
                        have w517 : (u2 dt442 79 14 2) 79 2 = dt442 79 2 := rfl
                        have w518 : (u2 dt442 79 14 2) 79 9 = dt442 79 9 := rfl
                        have w519 : (u2 dt442 79 14 2) 79 10 = dt442 79 10 := rfl
                        have w520 : (u2 dt442 79 14 2) 79 11 = dt442 79 11 := rfl
                        have w521 : (u2 dt442 79 14 2) 79 12 = dt442 79 12 := rfl
                        have w522 : (u2 dt442 79 14 2) 79 20 = dt442 79 20 := rfl
                        refine go_smp (L' := [some (.inr (.inr (some 79))), none, none]) (st' := []) (w' := (SH, (u2 dt442 79 14 2))) rfl rfl (s_pf rfl rfl rfl rfl ⟨by omega, by omega⟩) ?_
                        refine go_to (k := 1) (pc' := 320) (L' := [some (.inr (.inr (some 79))), none, none]) (st' := []) (w' := (SH, (u2 dt442 79 14 2))) (fun _ => rfl) ?_
                        exact GO.le (j325 (u2 dt442 79 14 2) hI511 hF512 (by omega) (by omega) (by omega) (by omega) (by omega) (by omega)) ⟨.inl rfl, .inl rfl, .inl rfl, trivial⟩
                    · skip
                      have r523 : 0 ≤ dt442 79 15 ∧ dt442 79 15 ≤ 500 := InvC_get hI443 79 15 rfl rfl
                      have j539 : ∀ (j539_d : Nat → Nat → Int) (j539_hI : InvC j539_d) (j539_hF : Fr [79] dt j539_d) (i540 : j539_d 79 2 = dt 79 2) (i541 : j539_d 79 9 = dt 79 9) (i542 : j539_d 79 10 = dt 79 10) (i543 : j539_d 79 11 = dt 79 11) (i544 : j539_d 79 12 = dt 79 12) (i545 : j539_d 79 20 = dt 79 20), GO (am_XX L xs sio) (d + 6) 159 190 [some (.inr (.inr (some 79))), none, none] [] (SH, j539_d) (fun r w2 => ∃ dt2 : Nat → Nat → Int, w2 = (SH, dt2) ∧ InvC dt2 ∧ Fr [79] dt dt2 ∧ ((r = none ∧ (dt 79 13 ≤ dt2 79 15) ∧ (¬ dt2 79 14 = 0 → dt2 79 15 + 1 ≤ dt2 79 13) ∧ (dt2 79 15 ≤ dt2 79 13) ∧ (dt2 79 2 = dt 79 2) ∧ (dt2 79 9 = dt 79 9) ∧ (dt2 79 10 = dt 79 10) ∧ (dt2 79 11 = dt 79 11) ∧ (dt2 79 12 = dt 79 12) ∧ (dt2 79 20 = dt 79 20)))) := by
                        intro j539_d j539_hI j539_hF i540 i541 i542 i543 i544 i545
                        have r546 : 0 ≤ j539_d 79 13 ∧ j539_d 79 13 ≤ 501 := InvC_get j539_hI 79 13 rfl rfl
                        refine go_to (k := 5) (pc' := 197) (L' := [some (.inr (.inr (some 79))), none, none]) (st' := [.inl ((j539_d 79 13) + 1), .inr (.inr (some 79))]) (w' := (SH, j539_d)) (fun _ => rfl) ?_
                        have hI547 : InvC (u2 j539_d 79 13 ((j539_d 79 13) + 1)) := InvC_u2 j539_hI (lo := 0) (hi := 501) rfl rfl rfl (by omega) (by omega)
                        have hF548 : Fr [79] dt (u2 j539_d 79 13 ((j539_d 79 13) + 1)) := Fr_u2 j539_hF (by decide)
                        have w549 : (u2 j539_d 79 13 ((j539_d 79 13) + 1)) 79 13 = (j539_d 79 13) + 1 := rfl
                        have w550 : (u2 j539_d 79 13 ((j539_d 79 13) + 1)) 79 15 = j539_d 79 15 := rfl
                        have w551 : (u2 j539_d 79 13 ((j539_d 79 13) + 1)) 79 14 = j539_d 79 14 := rfl
                        have w552 : (u2 j539_d 79 13 ((j539_d 79 13) + 1)) 79 16 = j539_d 79 16 := rfl
                        have w553 : (u2 j539_d 79 13 ((j539_d 79 13) + 1)) 79 2 = j539_d 79 2 := rfl
                        have w554 : (u2 j539_d 79 13 ((j539_d 79 13) + 1)) 79 9 = j539_d 79 9 := rfl
                        have w555 : (u2 j539_d 79 13 ((j539_d 79 13) + 1)) 79 10 = j539_d 79 10 := rfl
                        have w556 : (u2 j539_d 79 13 ((j539_d 79 13) + 1)) 79 11 = j539_d 79 11 := rfl
                        have w557 : (u2 j539_d 79 13 ((j539_d 79 13) + 1)) 79 12 = j539_d 79 12 := rfl
                        have w558 : (u2 j539_d 79 13 ((j539_d 79 13) + 1)) 79 20 = j539_d 79 20 := rfl
                        refine go_smp (L' := [some (.inr (.inr (some 79))), none, none]) (st' := []) (w' := (SH, (u2 j539_d 79 13 ((j539_d 79 13) + 1)))) rfl rfl (s_pf rfl rfl rfl rfl ⟨by omega, by omega⟩) ?_
                        refine go_to (k := 1) (pc' := 140) (L' := [some (.inr (.inr (some 79))), none, none]) (st' := []) (w' := (SH, (u2 j539_d 79 13 ((j539_d 79 13) + 1)))) (fun _ => rfl) ?_
                        exact GO.le (ih_loop460  (u2 j539_d 79 13 ((j539_d 79 13) + 1)) hI547 hF548 (by omega) (by omega) (by omega) (by omega) (by omega) (by omega) (by omega) (by omega) (by omega) (by omega) (by omega) (by omega) (by omega) (by omega) (by omega) (by omega)) ⟨.inl rfl, .inl rfl, .inl rfl, trivial⟩
                      refine go_if (k := 7) (p1 := 190) (p2 := 167) (L' := [some (.inr (.inr (some 79))), none, none]) (st' := []) (w' := (SH, dt442)) (fun _ => rfl) (c_ge (a := dt442 79 13) (b := (dt442 79 15) + 4) ⟨by omega, by omega⟩ ⟨by omega, by omega⟩) (fun c559 => ?_) (fun c559 => ?_)
                      · skip
                        exact GO.le (j539 dt442 hI443 hF444 (by omega) (by omega) (by omega) (by omega) (by omega) (by omega)) ⟨.inl rfl, .inl rfl, .inl rfl, trivial⟩
                      · skip
                        have r560 : 0 ≤ dt442 79 16 ∧ dt442 79 16 ≤ 9999 := InvC_get hI443 79 16 rfl rfl
                        refine go_to (k := 8) (pc' := 180) (L' := [some (.inr (.inr (some 79))), none, none]) (st' := [.inl (dt442 79 13), .inr (.inr (some 79)), .inl (10 * (dt442 79 16)), .inr (.inr (some 79))]) (w' := (SH, dt442)) (fun _ => rfl) ?_
                        refine go_call (Q' := _) rfl rfl rfl rfl rfl (sp_X6_see L xs sio (d + 5) dt442 hI443  (dt442 79 13) ⟨by omega, by omega⟩ ) ?_
                        rintro _ _ ⟨rfl, h561⟩
                        refine ⟨rfl, ?_⟩
                        rcases h561 with ⟨v_h561, rfl, h561r, h561⟩
                        refine go_to (k := 3) (pc' := 187) (L' := [some (.inr (.inr (some 79))), none, none]) (st' := [.inl (((10 * (dt442 79 16)) + v_h561) - 48), .inr (.inr (some 79))]) (w' := (SH, dt442)) (fun _ => rfl) ?_
                        have hI562 : InvC (u2 dt442 79 16 (((10 * (dt442 79 16)) + v_h561) - 48)) := InvC_u2 hI443 (lo := 0) (hi := 9999) rfl rfl rfl (by omega) (by omega)
                        have hF563 : Fr [79] dt (u2 dt442 79 16 (((10 * (dt442 79 16)) + v_h561) - 48)) := Fr_u2 hF444 (by decide)
                        have w564 : (u2 dt442 79 16 (((10 * (dt442 79 16)) + v_h561) - 48)) 79 13 = dt442 79 13 := rfl
                        have w565 : (u2 dt442 79 16 (((10 * (dt442 79 16)) + v_h561) - 48)) 79 15 = dt442 79 15 := rfl
                        have w566 : (u2 dt442 79 16 (((10 * (dt442 79 16)) + v_h561) - 48)) 79 14 = dt442 79 14 := rfl
                        have w567 : (u2 dt442 79 16 (((10 * (dt442 79 16)) + v_h561) - 48)) 79 16 = ((10 * (dt442 79 16)) + v_h561) - 48 := rfl
                        have w568 : (u2 dt442 79 16 (((10 * (dt442 79 16)) + v_h561) - 48)) 79 2 = dt442 79 2 := rfl
                        have w569 : (u2 dt442 79 16 (((10 * (dt442 79 16)) + v_h561) - 48)) 79 9 = dt442 79 9 := rfl
                        have w570 : (u2 dt442 79 16 (((10 * (dt442 79 16)) + v_h561) - 48)) 79 10 = dt442 79 10 := rfl
                        have w571 : (u2 dt442 79 16 (((10 * (dt442 79 16)) + v_h561) - 48)) 79 11 = dt442 79 11 := rfl
                        have w572 : (u2 dt442 79 16 (((10 * (dt442 79 16)) + v_h561) - 48)) 79 12 = dt442 79 12 := rfl
                        have w573 : (u2 dt442 79 16 (((10 * (dt442 79 16)) + v_h561) - 48)) 79 20 = dt442 79 20 := rfl
                        refine go_smp (L' := [some (.inr (.inr (some 79))), none, none]) (st' := []) (w' := (SH, (u2 dt442 79 16 (((10 * (dt442 79 16)) + v_h561) - 48)))) rfl rfl (s_pf rfl rfl rfl rfl ⟨by omega, by omega⟩) ?_
                        exact GO.le (j539 (u2 dt442 79 16 (((10 * (dt442 79 16)) + v_h561) - 48)) hI562 hF563 (by omega) (by omega) (by omega) (by omega) (by omega) (by omega)) ⟨.inl rfl, .inl rfl, .inl rfl, trivial⟩
                exact GO.le (loop460 _  (u2 (u2 dt33 79 15 (dt33 79 13)) 79 16 0) hI395 hF396 (by omega) (by omega) (by omega) (by omega) (by omega) (by omega) (by omega) (by omega) (by omega) (by omega) (by omega) (by omega) (by omega) (by omega) (by omega) (Nat.lt_succ_self _)) ⟨.inl rfl, .inr ⟨rfl, trivial⟩, .inl rfl, trivial⟩
            · skip
              have loop603 : ∀ (k_ : Nat) (dt591 : Nat → Nat → Int) (hI592 : InvC dt591) (hF593 : Fr [79] dt dt591) (i594 : dt591 79 15 ≤ dt591 79 13) (i595 : dt 79 13 ≤ dt591 79 15) (i596 : dt591 79 13 ≤ 501) (i597 : dt591 79 2 = dt 79 2) (i598 : dt591 79 9 = dt 79 9) (i599 : dt591 79 10 = dt 79 10) (i600 : dt591 79 11 = dt 79 11) (i601 : dt591 79 12 = dt 79 12) (i602 : dt591 79 20 = dt 79 20), (502 - dt591 79 13).toNat < k_ → GO (am_XX L xs sio) (d + 6) 159 76 [some (.inr (.inr (some 79))), none, none] [] (SH, dt591) (fun r w2 => ∃ dt2 : Nat → Nat → Int, w2 = (SH, dt2) ∧ InvC dt2 ∧ Fr [79] dt dt2 ∧ ((r = none ∧ (dt 79 13 ≤ dt2 79 15) ∧ (¬ dt2 79 14 = 0 → dt2 79 15 + 1 ≤ dt2 79 13) ∧ (dt2 79 15 ≤ dt2 79 13) ∧ (dt2 79 2 = dt 79 2) ∧ (dt2 79 9 = dt 79 9) ∧ (dt2 79 10 = dt 79 10) ∧ (dt2 79 11 = dt 79 11) ∧ (dt2 79 12 = dt 79 12) ∧ (dt2 79 20 = dt 79 20)))) := by
                intro k_
                induction k_ with
                | zero => intro dt591 hI592 hF593 i594 i595 i596 i597 i598 i599 i600 i601 i602 hm; exact absurd hm (Nat.not_lt_zero _)
                | succ k_ ih_loop603 =>
                  intro dt591 hI592 hF593 i594 i595 i596 i597 i598 i599 i600 i601 i602 hm
                  have r604 : 0 ≤ dt591 79 13 ∧ dt591 79 13 ≤ 501 := InvC_get hI592 79 13 rfl rfl
                  refine go_to (k := 3) (pc' := 81) (L' := [some (.inr (.inr (some 79))), none, none]) (st' := [.inl (dt591 79 13), .inr (.inr (some 79))]) (w' := (SH, dt591)) (fun _ => rfl) ?_
                  refine go_call (Q' := _) rfl rfl rfl rfl rfl (sp_X6_see L xs sio (d + 5) dt591 hI592  (dt591 79 13) ⟨by omega, by omega⟩ ) ?_
                  rintro _ _ ⟨rfl, h605⟩
                  refine ⟨rfl, ?_⟩
                  rcases h605 with ⟨v_h605, rfl, h605r, h605⟩
                  refine go_call (Q' := _) rfl rfl rfl rfl rfl (sp_X6_isLetter L xs sio (d + 4) dt591 hI592  v_h605 ⟨by omega, by omega⟩ ) ?_
                  rintro _ _ ⟨rfl, h606⟩
                  refine ⟨rfl, ?_⟩
                  rcases h606 with ⟨v_h606, rfl, h606r, h606⟩
                  refine go_if (k := 1) (p1 := 103) (p2 := 90) (L' := [some (.inr (.inr (some 79))), none, none]) (st' := []) (w' := (SH, dt591)) (fun _ => rfl) (z_eq (a := v_h606) ⟨by omega, by omega⟩) (fun c620 => ?_) (fun c620 => ?_)
                  · skip
                    have r621 : 0 ≤ dt591 79 9 ∧ dt591 79 9 ≤ 1 := InvC_get hI592 79 9 rfl rfl
                    have j625 : ∀ (j625_s0 : Int) (i626 : 1 ≤ j625_s0 ∧ j625_s0 ≤ 46), GO (am_XX L xs sio) (d + 6) 159 122 [some (.inr (.inr (some 79))), none, none] [.inl j625_s0, .inr (.inr (some 79))] (SH, dt591) (fun r w2 => ∃ dt2 : Nat → Nat → Int, w2 = (SH, dt2) ∧ InvC dt2 ∧ Fr [79] dt dt2 ∧ ((r = none ∧ (dt 79 13 ≤ dt2 79 15) ∧ (¬ dt2 79 14 = 0 → dt2 79 15 + 1 ≤ dt2 79 13) ∧ (dt2 79 15 ≤ dt2 79 13) ∧ (dt2 79 2 = dt 79 2) ∧ (dt2 79 9 = dt 79 9) ∧ (dt2 79 10 = dt 79 10) ∧ (dt2 79 11 = dt 79 11) ∧ (dt2 79 12 = dt 79 12) ∧ (dt2 79 20 = dt 79 20)))) := by
                      intro j625_s0 i626
                      have hI627 : InvC (u2 dt591 79 14 j625_s0) := InvC_u2 hI592 (lo := -2147483648) (hi := 2147483647) rfl rfl rfl (by omega) (by omega)
                      have hF628 : Fr [79] dt (u2 dt591 79 14 j625_s0) := Fr_u2 hF593 (by decide)
                      have w629 : (u2 dt591 79 14 j625_s0) 79 13 = dt591 79 13 := rfl
                      have w630 : (u2 dt591 79 14 j625_s0) 79 15 = dt591 79 15 := rfl
                      have w631 : (u2 dt591 79 14 j625_s0) 79 14 = j625_s0 := rfl
                      have w632 : (u2 dt591 79 14 j625_s0) 79 16 = dt591 79 16 := rfl
                      have w633 : (u2 dt591 79 14 j625_s0) 79 2 = dt591 79 2 := rfl
                      have w634 : (u2 dt591 79 14 j625_s0) 79 9 = dt591 79 9 := rfl
                      have w635 : (u2 dt591 79 14 j625_s0) 79 10 = dt591 79 10 := rfl
                      have w636 : (u2 dt591 79 14 j625_s0) 79 11 = dt591 79 11 := rfl
                      have w637 : (u2 dt591 79 14 j625_s0) 79 12 = dt591 79 12 := rfl
                      have w638 : (u2 dt591 79 14 j625_s0) 79 20 = dt591 79 20 := rfl
                      refine go_smp (L' := [some (.inr (.inr (some 79))), none, none]) (st' := []) (w' := (SH, (u2 dt591 79 14 j625_s0))) rfl rfl (s_pf rfl rfl rfl rfl ⟨by omega, by omega⟩) ?_
                      refine go_to (k := 1) (pc' := 320) (L' := [some (.inr (.inr (some 79))), none, none]) (st' := []) (w' := (SH, (u2 dt591 79 14 j625_s0))) (fun _ => rfl) ?_
                      exact GO.le (j325 (u2 dt591 79 14 j625_s0) hI627 hF628 (by omega) (by omega) (by omega) (by omega) (by omega) (by omega)) ⟨.inl rfl, .inl rfl, .inl rfl, trivial⟩
                    refine go_if (k := 4) (p1 := 118) (p2 := 111) (L' := [some (.inr (.inr (some 79))), none, none]) (st' := [.inr (.inr (some 79))]) (w' := (SH, dt591)) (fun _ => rfl) (z_ne (a := dt591 79 9) ⟨by omega, by omega⟩) (fun c639 => ?_) (fun c639 => ?_)
                    · skip
                      refine go_to (k := 1) (pc' := 119) (L' := [some (.inr (.inr (some 79))), none, none]) (st' := [.inr (.inr (some 79)), .inr (.inr (some 79))]) (w' := (SH, dt591)) (fun _ => rfl) ?_
                      refine go_call (Q' := _) rfl rfl rfl rfl rfl (sp_X6_lawWord L xs sio (d + 0) dt591 hI592   ) ?_
                      rintro _ _ ⟨rfl, h640⟩
                      refine ⟨rfl, ?_⟩
                      rcases h640 with ⟨v_h640, rfl, h640r, h640⟩
                      exact GO.le (j625 v_h640 (by omega)) ⟨.inl rfl, .inl rfl, .inl rfl, trivial⟩
                    · skip
                      refine go_to (k := 1) (pc' := 112) (L' := [some (.inr (.inr (some 79))), none, none]) (st' := [.inr (.inr (some 79)), .inr (.inr (some 79))]) (w' := (SH, dt591)) (fun _ => rfl) ?_
                      refine go_call (Q' := _) rfl rfl rfl rfl rfl (sp_X6_actWord L xs sio (d + 0) dt591 hI592   ) ?_
                      rintro _ _ ⟨rfl, h641⟩
                      refine ⟨rfl, ?_⟩
                      rcases h641 with ⟨v_h641, rfl, h641r, h641⟩
                      refine go_to (k := 1) (pc' := 122) (L' := [some (.inr (.inr (some 79))), none, none]) (st' := [.inl v_h641, .inr (.inr (some 79))]) (w' := (SH, dt591)) (fun _ => rfl) ?_
                      exact GO.le (j625 v_h641 (by omega)) ⟨.inl rfl, .inl rfl, .inl rfl, trivial⟩
                  · skip
                    refine go_to (k := 5) (pc' := 97) (L' := [some (.inr (.inr (some 79))), none, none]) (st' := [.inl ((dt591 79 13) + 1), .inr (.inr (some 79))]) (w' := (SH, dt591)) (fun _ => rfl) ?_
                    have hI642 : InvC (u2 dt591 79 13 ((dt591 79 13) + 1)) := InvC_u2 hI592 (lo := 0) (hi := 501) rfl rfl rfl (by omega) (by omega)
                    have hF643 : Fr [79] dt (u2 dt591 79 13 ((dt591 79 13) + 1)) := Fr_u2 hF593 (by decide)
                    have w644 : (u2 dt591 79 13 ((dt591 79 13) + 1)) 79 13 = (dt591 79 13) + 1 := rfl
                    have w645 : (u2 dt591 79 13 ((dt591 79 13) + 1)) 79 15 = dt591 79 15 := rfl
                    have w646 : (u2 dt591 79 13 ((dt591 79 13) + 1)) 79 14 = dt591 79 14 := rfl
                    have w647 : (u2 dt591 79 13 ((dt591 79 13) + 1)) 79 16 = dt591 79 16 := rfl
                    have w648 : (u2 dt591 79 13 ((dt591 79 13) + 1)) 79 2 = dt591 79 2 := rfl
                    have w649 : (u2 dt591 79 13 ((dt591 79 13) + 1)) 79 9 = dt591 79 9 := rfl
                    have w650 : (u2 dt591 79 13 ((dt591 79 13) + 1)) 79 10 = dt591 79 10 := rfl
                    have w651 : (u2 dt591 79 13 ((dt591 79 13) + 1)) 79 11 = dt591 79 11 := rfl
                    have w652 : (u2 dt591 79 13 ((dt591 79 13) + 1)) 79 12 = dt591 79 12 := rfl
                    have w653 : (u2 dt591 79 13 ((dt591 79 13) + 1)) 79 20 = dt591 79 20 := rfl
                    refine go_smp (L' := [some (.inr (.inr (some 79))), none, none]) (st' := []) (w' := (SH, (u2 dt591 79 13 ((dt591 79 13) + 1)))) rfl rfl (s_pf rfl rfl rfl rfl ⟨by omega, by omega⟩) ?_
                    refine go_to (k := 1) (pc' := 76) (L' := [some (.inr (.inr (some 79))), none, none]) (st' := []) (w' := (SH, (u2 dt591 79 13 ((dt591 79 13) + 1)))) (fun _ => rfl) ?_
                    exact GO.le (ih_loop603  (u2 dt591 79 13 ((dt591 79 13) + 1)) hI642 hF643 (by omega) (by omega) (by omega) (by omega) (by omega) (by omega) (by omega) (by omega) (by omega) (by omega)) ⟨.inl rfl, .inl rfl, .inl rfl, trivial⟩
              exact GO.le (loop603 _  (u2 dt33 79 15 (dt33 79 13)) hI87 hF88 (by omega) (by omega) (by omega) (by omega) (by omega) (by omega) (by omega) (by omega) (by omega) (Nat.lt_succ_self _)) ⟨.inl rfl, .inr ⟨rfl, trivial⟩, .inl rfl, trivial⟩
          · skip
            refine go_to (k := 2) (pc' := 63) (L' := [some (.inr (.inr (some 79))), some (.inl v_h99), none]) (st' := [.inl 0, .inr (.inr (some 79))]) (w' := (SH, (u2 dt33 79 15 (dt33 79 13)))) (fun _ => rfl) ?_
            have hI654 : InvC (u2 (u2 dt33 79 15 (dt33 79 13)) 79 14 0) := InvC_u2 hI87 (lo := -2147483648) (hi := 2147483647) rfl rfl rfl (by omega) (by omega)
            have hF655 : Fr [79] dt (u2 (u2 dt33 79 15 (dt33 79 13)) 79 14 0) := Fr_u2 hF88 (by decide)
            have w656 : (u2 (u2 dt33 79 15 (dt33 79 13)) 79 14 0) 79 13 = (u2 dt33 79 15 (dt33 79 13)) 79 13 := rfl
            have w657 : (u2 (u2 dt33 79 15 (dt33 79 13)) 79 14 0) 79 15 = (u2 dt33 79 15 (dt33 79 13)) 79 15 := rfl
            have w658 : (u2 (u2 dt33 79 15 (dt33 79 13)) 79 14 0) 79 14 = 0 := rfl
            have w659 : (u2 (u2 dt33 79 15 (dt33 79 13)) 79 14 0) 79 16 = (u2 dt33 79 15 (dt33 79 13)) 79 16 := rfl
            have w660 : (u2 (u2 dt33 79 15 (dt33 79 13)) 79 14 0) 79 2 = (u2 dt33 79 15 (dt33 79 13)) 79 2 := rfl
            have w661 : (u2 (u2 dt33 79 15 (dt33 79 13)) 79 14 0) 79 9 = (u2 dt33 79 15 (dt33 79 13)) 79 9 := rfl
            have w662 : (u2 (u2 dt33 79 15 (dt33 79 13)) 79 14 0) 79 10 = (u2 dt33 79 15 (dt33 79 13)) 79 10 := rfl
            have w663 : (u2 (u2 dt33 79 15 (dt33 79 13)) 79 14 0) 79 11 = (u2 dt33 79 15 (dt33 79 13)) 79 11 := rfl
            have w664 : (u2 (u2 dt33 79 15 (dt33 79 13)) 79 14 0) 79 12 = (u2 dt33 79 15 (dt33 79 13)) 79 12 := rfl
            have w665 : (u2 (u2 dt33 79 15 (dt33 79 13)) 79 14 0) 79 20 = (u2 dt33 79 15 (dt33 79 13)) 79 20 := rfl
            refine go_smp (L' := [some (.inr (.inr (some 79))), some (.inl v_h99), none]) (st' := []) (w' := (SH, (u2 (u2 dt33 79 15 (dt33 79 13)) 79 14 0))) rfl rfl (s_pf rfl rfl rfl rfl ⟨by omega, by omega⟩) ?_
            refine go_to (k := 1) (pc' := 320) (L' := [some (.inr (.inr (some 79))), some (.inl v_h99), none]) (st' := []) (w' := (SH, (u2 (u2 dt33 79 15 (dt33 79 13)) 79 14 0))) (fun _ => rfl) ?_
            exact GO.le (j325 (u2 (u2 dt33 79 15 (dt33 79 13)) 79 14 0) hI654 hF655 (by omega) (by omega) (by omega) (by omega) (by omega) (by omega)) ⟨.inl rfl, .inr ⟨rfl, trivial⟩, .inl rfl, trivial⟩
        · skip
          refine go_to (k := 5) (pc' := 33) (L' := [some (.inr (.inr (some 79))), none, none]) (st' := [.inl ((dt33 79 13) + 1), .inr (.inr (some 79))]) (w' := (SH, dt33)) (fun _ => rfl) ?_
          have hI666 : InvC (u2 dt33 79 13 ((dt33 79 13) + 1)) := InvC_u2 hI34 (lo := 0) (hi := 501) rfl rfl rfl (by omega) (by omega)
          have hF667 : Fr [79] dt (u2 dt33 79 13 ((dt33 79 13) + 1)) := Fr_u2 hF35 (by decide)
          have w668 : (u2 dt33 79 13 ((dt33 79 13) + 1)) 79 13 = (dt33 79 13) + 1 := rfl
          have w669 : (u2 dt33 79 13 ((dt33 79 13) + 1)) 79 15 = dt33 79 15 := rfl
          have w670 : (u2 dt33 79 13 ((dt33 79 13) + 1)) 79 14 = dt33 79 14 := rfl
          have w671 : (u2 dt33 79 13 ((dt33 79 13) + 1)) 79 16 = dt33 79 16 := rfl
          have w672 : (u2 dt33 79 13 ((dt33 79 13) + 1)) 79 2 = dt33 79 2 := rfl
          have w673 : (u2 dt33 79 13 ((dt33 79 13) + 1)) 79 9 = dt33 79 9 := rfl
          have w674 : (u2 dt33 79 13 ((dt33 79 13) + 1)) 79 10 = dt33 79 10 := rfl
          have w675 : (u2 dt33 79 13 ((dt33 79 13) + 1)) 79 11 = dt33 79 11 := rfl
          have w676 : (u2 dt33 79 13 ((dt33 79 13) + 1)) 79 12 = dt33 79 12 := rfl
          have w677 : (u2 dt33 79 13 ((dt33 79 13) + 1)) 79 20 = dt33 79 20 := rfl
          refine go_smp (L' := [some (.inr (.inr (some 79))), none, none]) (st' := []) (w' := (SH, (u2 dt33 79 13 ((dt33 79 13) + 1)))) rfl rfl (s_pf rfl rfl rfl rfl ⟨by omega, by omega⟩) ?_
          refine go_to (k := 1) (pc' := 0) (L' := [some (.inr (.inr (some 79))), none, none]) (st' := []) (w' := (SH, (u2 dt33 79 13 ((dt33 79 13) + 1)))) (fun _ => rfl) ?_
          exact GO.le (ih_loop43  (u2 dt33 79 13 ((dt33 79 13) + 1)) hI666 hF667 (by omega) (by omega) (by omega) (by omega) (by omega) (by omega) (by omega) (by omega)) ⟨.inl rfl, .inl rfl, .inl rfl, trivial⟩
  exact GO.le (loop43 _  dt hI hF (by omega) (by omega) (by omega) (by omega) (by omega) (by omega) (by omega) (Nat.lt_succ_self _)) ⟨.inl rfl, .inl rfl, .inl rfl, trivial⟩
